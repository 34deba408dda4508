theorem tqw_at {cl : String} {D : va_G} {ws : va_W} {s st t U : State} {v : Addr} {a a2 : Array Value} {H : Heap} (hP : va_P D cls ws H) (h0 : st.heap = H) (hz : s.heap.size ≤ H.size) (hw : s.WarmedH st.vm) (hq : tq cl a st (.threw v) t) (hU : U.heap = t.heap) : tqw cl D ws a2 s (.threw v) U := by
  obtain ⟨q, e, h1, h2⟩ := hq
  cases e
  exact ⟨v, rfl, h1.to hw (by rw [h0]; exact hz) hU, va_P_grown hP (fun a ha => by rw [hU, ← h0]; exact same_cells (t := { t with vm := st.vm }) h2 a (by rw [h0]; exact ha))⟩
theorem tqw_up {cl : String} {D : va_G} {ws : va_W} {s st t U : State} {v : Addr} {a a2 : Array Value} {H : Heap} (h0 : st.heap = H) (hz : s.heap.size ≤ H.size) (hw : s.WarmedH st.vm) (hq : tqw cl D ws a st (.threw v) t) (hU : U.heap = t.heap) : tqw cl D ws a2 s (.threw v) U := by
  obtain ⟨q, e, h1, h2⟩ := hq
  cases e
  exact ⟨v, rfl, h1.to hw (by rw [h0]; exact hz) hU, by rw [hU]; exact h2⟩
theorem in_bad {x : Int32} {lo hi : Nat} (h : decide (nI lo ≤ x ∧ x ≤ nI hi) = false) : x < nI lo ∨ ¬ x ≤ nI hi := by
  have h := of_decide_eq_false h
  by_cases h1 : x < nI lo
  · exact Or.inl h1
  · exact Or.inr (fun h2 => h ⟨Int32.not_lt.mp h1, h2⟩)
set_option maxHeartbeats 4000000 in
set_option maxRecDepth 100000 in
theorem t_R_days_1 (l : Launch) (htr : l.stackTraces = false) (D : va_G) (ad : Nat → Nat) (ca : Nat → ClassId) (P S G : Nat → Nat → Nat) (hP0 : okP P) (hS0 : okS S) (hG0 : okG G) (x : Int32) (hbad : decide (nI 0 ≤ x ∧ x ≤ nI 7) = false) (sz : Nat) : MetT l y_R_days w_R_days { frames := 8, cells := 1, slots := 6, locals := 180 } (tw_P [.ref (ad 0), .int x] D (wR ad ca P S G) (tR ca) sz) (tqw "java/lang/IndexOutOfBoundsException" D (wR ad ca P S G)) 1 6 (va_A (wR ad ca P S G) sz) := by
  refine MetT.ofW (cc := b_R_days) (maxL := 2) (ret := none) (by decide) rfl ?_
  intro p e s m args below meth c s₁ B hml hv
  obtain ⟨rfl, hsz, hN, hX, hP, hK, hD0⟩ := hv
  have hx := B.exec
  have hb := B.bytes
  have hts := atoms_spec (ws := w_R_days) B.pre
  have htb : ∀ w ∈ TBG, w.before [.ref (ad 0), .int x].toArray s = true := fun w h => hts w (List.mem_cons_of_mem _ h)
  have hown : s.vm.findClass R_R = some m.cls := findClass_of_methodNamed B.named
  have hlocks := B.notSynchronized
  subst hsz
  have hD := hD0.self (sz := s.heap.size)
  have hPs := hP
  generalize hAe : va_A (wR ad ca P S G) s.heap.size = A at hD ⊢
  have hA : ∀ q : Nat, s.heap.size ≤ q → A q := fun q h => by rw [← hAe]; exact Or.inr h
  have hS : va_S A s.heap s.heap [] := va_S.rf
  have hl := lv_entry ([.ref (ad 0), .int x]) (n := 2) (Nat.le_of_ble_eq_true rfl)
  rw [lg_entry_eq]
  generalize (lg_sl ([.ref (ad 0), .int x]) ++ List.replicate (2 - (lg_sl ([.ref (ad 0), .int x])).length) Slot.unset).toArray = ls at hl ⊢
  have hl : lv_has ls 2 [(0, .ref (ad 0)), (1, .int x)] := hl
  refine nr_start hP hS (fun H locs hP hS => ?_)
  obtain ⟨h00, h01, h02, h03, h04, h05, hp1, hp2, hp3, hp4, hp5, hp6⟩ := id hP0
  obtain ⟨g00, g01, g02, g03, g04, g05, g06, hs1, hs2, hs3, hs4, hs5, hs6, hs7⟩ := id hS0
  obtain ⟨k00, k01, hg1, hg2⟩ := id hG0
  refine lv_iload_n hx hb d_R_days_0 rfl (lv_at hl 1 rfl) ?_
  refine nr_iconst hx hb 0 d_R_days_1 (by decide) ?_
  refine nr_bipush hx hb 7 d_R_days_2 (by decide) ?_
  intro T hT X
  exact nr_out (nr_runST (As := [.int x, .int (nI 0), .int (nI 7)]) (rest := []) ⟨hx, hb, hml, hown, hts⟩ (t_R_refuseOutside l htr x (nI 0) (nI 7) (in_bad hbad)) ⟨callB_of 3 hts (gTB q_R_refuseOutside) rfl rfl rfl (htb _ q1) (htb _ q244) hd_R_refuseOutside ⟨Nat.le_of_ble_eq_true rfl, Nat.le_of_ble_eq_true rfl⟩, (htb _ q245)⟩ ⟨tx_blind, fun U hU hW => ⟨rfl, hN.warm hW, tx_keep hX hPs (by rw [hAe]; exact hS) U hU hW⟩⟩ rfl rfl hl.1 rfl (lv_room (Nat.le_of_ble_eq_true rfl)) d_R_days_4 ⟨Nat.le_of_ble_eq_true rfl, Nat.le_of_ble_eq_true rfl⟩) (no_handlers X B.named (hts _ List.mem_cons_self) _) hS.2.2 (fun _ h => h.elim) hlocks (fun v st t U h0 hw hq hU hW => tqw_at hP h0 hS.1 hw hq hU) T hT X
set_option maxHeartbeats 4000000 in
set_option maxRecDepth 100000 in
theorem t_R_person_1a (l : Launch) (htr : l.stackTraces = false) (D : va_G) (ad : Nat → Nat) (ca : Nat → ClassId) (P S G : Nat → Nat → Nat) (hP0 : okP P) (hS0 : okS S) (hG0 : okG G) (x y : Int32) (hbad : decide (nI 0 ≤ x ∧ x ≤ nI 15) = false) (sz : Nat) : MetT l y_R_person w_R_person { frames := 8, cells := 1, slots := 6, locals := 180 } (tw_P [.ref (ad 0), .int x, .int y] D (wR ad ca P S G) (tR ca) sz) (tqw "java/lang/IndexOutOfBoundsException" D (wR ad ca P S G)) 1 6 (va_A (wR ad ca P S G) sz) := by
  refine MetT.ofW (cc := b_R_person) (maxL := 3) (ret := (some .int)) (by decide) rfl ?_
  intro p e s m args below meth c s₁ B hml hv
  obtain ⟨rfl, hsz, hN, hX, hP, hK, hD0⟩ := hv
  have hx := B.exec
  have hb := B.bytes
  have hts := atoms_spec (ws := w_R_person) B.pre
  have htb : ∀ w ∈ TBG, w.before [.ref (ad 0), .int x, .int y].toArray s = true := fun w h => hts w (List.mem_cons_of_mem _ h)
  have hown : s.vm.findClass R_R = some m.cls := findClass_of_methodNamed B.named
  have hlocks := B.notSynchronized
  subst hsz
  have hD := hD0.self (sz := s.heap.size)
  have hPs := hP
  generalize hAe : va_A (wR ad ca P S G) s.heap.size = A at hD ⊢
  have hA : ∀ q : Nat, s.heap.size ≤ q → A q := fun q h => by rw [← hAe]; exact Or.inr h
  have hS : va_S A s.heap s.heap [] := va_S.rf
  have hl := lv_entry ([.ref (ad 0), .int x, .int y]) (n := 3) (Nat.le_of_ble_eq_true rfl)
  rw [lg_entry_eq]
  generalize (lg_sl ([.ref (ad 0), .int x, .int y]) ++ List.replicate (3 - (lg_sl ([.ref (ad 0), .int x, .int y])).length) Slot.unset).toArray = ls at hl ⊢
  have hl : lv_has ls 3 [(0, .ref (ad 0)), (1, .int x), (2, .int y)] := hl
  refine nr_start hP hS (fun H locs hP hS => ?_)
  obtain ⟨h00, h01, h02, h03, h04, h05, hp1, hp2, hp3, hp4, hp5, hp6⟩ := id hP0
  obtain ⟨g00, g01, g02, g03, g04, g05, g06, hs1, hs2, hs3, hs4, hs5, hs6, hs7⟩ := id hS0
  obtain ⟨k00, k01, hg1, hg2⟩ := id hG0
  refine lv_iload_n hx hb d_R_person_0 rfl (lv_at hl 1 rfl) ?_
  refine nr_iconst hx hb 0 d_R_person_1 (by decide) ?_
  refine nr_bipush hx hb 15 d_R_person_2 (by decide) ?_
  intro T hT X
  exact nr_out (nr_runST (As := [.int x, .int (nI 0), .int (nI 15)]) (rest := []) ⟨hx, hb, hml, hown, hts⟩ (t_R_refuseOutside l htr x (nI 0) (nI 15) (in_bad hbad)) ⟨callB_of 3 hts (gTB q_R_refuseOutside) rfl rfl rfl (htb _ q1) (htb _ q244) hd_R_refuseOutside ⟨Nat.le_of_ble_eq_true rfl, Nat.le_of_ble_eq_true rfl⟩, (htb _ q245)⟩ ⟨tx_blind, fun U hU hW => ⟨rfl, hN.warm hW, tx_keep hX hPs (by rw [hAe]; exact hS) U hU hW⟩⟩ rfl rfl hl.1 rfl (lv_room (Nat.le_of_ble_eq_true rfl)) d_R_person_4 ⟨Nat.le_of_ble_eq_true rfl, Nat.le_of_ble_eq_true rfl⟩) (no_handlers X B.named (hts _ List.mem_cons_self) _) hS.2.2 (fun _ h => h.elim) hlocks (fun v st t U h0 hw hq hU hW => tqw_at hP h0 hS.1 hw hq hU) T hT X
set_option maxHeartbeats 4000000 in
set_option maxRecDepth 100000 in
theorem t_R_person_1b (l : Launch) (htr : l.stackTraces = false) (D : va_G) (ad : Nat → Nat) (ca : Nat → ClassId) (P S G : Nat → Nat → Nat) (hP0 : okP P) (hS0 : okS S) (hG0 : okG G) (x : Nat) (y : Int32) (h_x : 0 ≤ x ∧ x ≤ 15) (hbad : decide (nI 0 ≤ y ∧ y ≤ nI 10000) = false) (sz : Nat) : MetT l y_R_person w_R_person { frames := 8, cells := 1, slots := 6, locals := 180 } (tw_P [.ref (ad 0), .int (nI x), .int y] D (wR ad ca P S G) (tR ca) sz) (tqw "java/lang/IndexOutOfBoundsException" D (wR ad ca P S G)) 1 6 (va_A (wR ad ca P S G) sz) := by
  refine MetT.ofW (cc := b_R_person) (maxL := 3) (ret := (some .int)) (by decide) rfl ?_
  intro p e s m args below meth c s₁ B hml hv
  obtain ⟨rfl, hsz, hN, hX, hP, hK, hD0⟩ := hv
  have hx := B.exec
  have hb := B.bytes
  have hts := atoms_spec (ws := w_R_person) B.pre
  have htb : ∀ w ∈ TBG, w.before [.ref (ad 0), .int (nI x), .int y].toArray s = true := fun w h => hts w (List.mem_cons_of_mem _ h)
  have hown : s.vm.findClass R_R = some m.cls := findClass_of_methodNamed B.named
  have hlocks := B.notSynchronized
  subst hsz
  have hD := hD0.self (sz := s.heap.size)
  have hPs := hP
  generalize hAe : va_A (wR ad ca P S G) s.heap.size = A at hD ⊢
  have hA : ∀ q : Nat, s.heap.size ≤ q → A q := fun q h => by rw [← hAe]; exact Or.inr h
  have hS : va_S A s.heap s.heap [] := va_S.rf
  have hl := lv_entry ([.ref (ad 0), .int (nI x), .int y]) (n := 3) (Nat.le_of_ble_eq_true rfl)
  rw [lg_entry_eq]
  generalize (lg_sl ([.ref (ad 0), .int (nI x), .int y]) ++ List.replicate (3 - (lg_sl ([.ref (ad 0), .int (nI x), .int y])).length) Slot.unset).toArray = ls at hl ⊢
  have hl : lv_has ls 3 [(0, .ref (ad 0)), (1, .int (nI x)), (2, .int y)] := hl
  refine nr_start hP hS (fun H locs hP hS => ?_)
  obtain ⟨h00, h01, h02, h03, h04, h05, hp1, hp2, hp3, hp4, hp5, hp6⟩ := id hP0
  obtain ⟨g00, g01, g02, g03, g04, g05, g06, hs1, hs2, hs3, hs4, hs5, hs6, hs7⟩ := id hS0
  obtain ⟨k00, k01, hg1, hg2⟩ := id hG0
  refine lv_iload_n hx hb d_R_person_0 rfl (lv_at hl 1 rfl) ?_
  refine nr_iconst hx hb 0 d_R_person_1 (by decide) ?_
  refine nr_bipush hx hb 15 d_R_person_2 (by decide) ?_
  refine nr_callv (wr := ([0, 1, 2, 3, 4, 5, 6, 7, 8, 9, 10, 11, 12, 13, 14, 15, 16, 17] : List Nat).filterMap (fun i => (wR ad ca P S G : va_W)[i]?)) (va_runS (As := [.int (nI x), .int (nI 0), .int (nI 15)]) (rest := []) ⟨hx, hb, hml, hown, hts⟩ (r_R_refuseOutside l D x 0 15 (by omega) (by omega) (by omega) H.size) ⟨callB_of 3 hts (gTB q_R_refuseOutside) rfl rfl rfl (htb _ q1) (htb _ q244) hd_R_refuseOutside ⟨Nat.le_of_ble_eq_true rfl, Nat.le_of_ble_eq_true rfl⟩, (htb _ q245)⟩ ⟨rw_blind, rw_pre hN (hP.sub (ws' := []) [] rfl) (hK.sub (tys' := []) [] rfl) (hD.sub (ws' := []) [] (by decide) rfl)⟩ rfl rfl hl.1 rfl (lv_room (Nat.le_of_ble_eq_true rfl)) d_R_person_4 ⟨Nat.le_of_ble_eq_true rfl, Nat.le_of_ble_eq_true rfl⟩) hP hD hS hA [] [0, 1, 2, 3, 4, 5, 6, 7, 8, 9, 10, 11, 12, 13, 14, 15, 16, 17] rfl rfl (by decide) (by decide) (fun u_1 H locs hu_1 hP hD hS => ?_)
  replace hP := hP.sub (ws' := wR ad ca P S G) [0, 1, 2, 3, 4, 5, 6, 7, 8, 9, 10, 11, 12, 13, 14, 15, 16, 17] rfl
  replace hD := hD.sub (ws' := wR ad ca P S G) [0, 1, 2, 3, 4, 5, 6, 7, 8, 9, 10, 11, 12, 13, 14, 15, 16, 17] (by decide) rfl
  refine lv_iload_n hx hb d_R_person_7 rfl (lv_at hl 2 rfl) ?_
  refine nr_iconst hx hb 0 d_R_person_8 (by decide) ?_
  refine nr_sipush hx hb 10000 d_R_person_9 (by decide) ?_
  intro T hT X
  exact nr_out (nr_runST (As := [.int y, .int (nI 0), .int (nI 10000)]) (rest := []) ⟨hx, hb, hml, hown, hts⟩ (t_R_refuseOutside l htr y (nI 0) (nI 10000) (in_bad hbad)) ⟨callB_of 3 hts (gTB q_R_refuseOutside) rfl rfl rfl (htb _ q1) (htb _ q244) hd_R_refuseOutside ⟨Nat.le_of_ble_eq_true rfl, Nat.le_of_ble_eq_true rfl⟩, (htb _ q245)⟩ ⟨tx_blind, fun U hU hW => ⟨rfl, hN.warm hW, tx_keep hX hPs (by rw [hAe]; exact hS) U hU hW⟩⟩ rfl rfl hl.1 rfl (lv_room (Nat.le_of_ble_eq_true rfl)) d_R_person_12 ⟨Nat.le_of_ble_eq_true rfl, Nat.le_of_ble_eq_true rfl⟩) (no_handlers X B.named (hts _ List.mem_cons_self) _) hS.2.2 (fun _ h => h.elim) hlocks (fun v st t U h0 hw hq hU hW => tqw_at hP h0 hS.1 hw hq hU) T hT X
set_option maxHeartbeats 4000000 in
set_option maxRecDepth 100000 in
theorem t_R_person_2 (l : Launch) (htr : l.stackTraces = false) (D : va_G) (ad : Nat → Nat) (ca : Nat → ClassId) (P S G : Nat → Nat → Nat) (hP0 : okP P) (hS0 : okS S) (hG0 : okG G) (x y : Nat) (h_x : 0 ≤ x ∧ x ≤ 15) (h_y : 0 ≤ y ∧ y ≤ 10000) (hfull : P 0 0 = 6) (sz : Nat) : MetT l y_R_person w_R_person { frames := 8, cells := 1, slots := 6, locals := 180 } (tw_P [.ref (ad 0), .int (nI x), .int (nI y)] D (wR ad ca P S G) (tR ca) sz) (tqw "java/lang/UnsupportedOperationException" D (wR ad ca P S G)) 1 6 (va_A (wR ad ca P S G) sz) := by
  refine MetT.ofW (cc := b_R_person) (maxL := 3) (ret := (some .int)) (by decide) rfl ?_
  intro p e s m args below meth c s₁ B hml hv
  obtain ⟨rfl, hsz, hN, hX, hP, hK, hD0⟩ := hv
  have hx := B.exec
  have hb := B.bytes
  have hts := atoms_spec (ws := w_R_person) B.pre
  have htb : ∀ w ∈ TBG, w.before [.ref (ad 0), .int (nI x), .int (nI y)].toArray s = true := fun w h => hts w (List.mem_cons_of_mem _ h)
  have hown : s.vm.findClass R_R = some m.cls := findClass_of_methodNamed B.named
  have hlocks := B.notSynchronized
  subst hsz
  have hD := hD0.self (sz := s.heap.size)
  have hPs := hP
  generalize hAe : va_A (wR ad ca P S G) s.heap.size = A at hD ⊢
  have hA : ∀ q : Nat, s.heap.size ≤ q → A q := fun q h => by rw [← hAe]; exact Or.inr h
  have hS : va_S A s.heap s.heap [] := va_S.rf
  have hl := lv_entry ([.ref (ad 0), .int (nI x), .int (nI y)]) (n := 3) (Nat.le_of_ble_eq_true rfl)
  rw [lg_entry_eq]
  generalize (lg_sl ([.ref (ad 0), .int (nI x), .int (nI y)]) ++ List.replicate (3 - (lg_sl ([.ref (ad 0), .int (nI x), .int (nI y)])).length) Slot.unset).toArray = ls at hl ⊢
  have hl : lv_has ls 3 [(0, .ref (ad 0)), (1, .int (nI x)), (2, .int (nI y))] := hl
  refine nr_start hP hS (fun H locs hP hS => ?_)
  obtain ⟨h00, h01, h02, h03, h04, h05, hp1, hp2, hp3, hp4, hp5, hp6⟩ := id hP0
  obtain ⟨g00, g01, g02, g03, g04, g05, g06, hs1, hs2, hs3, hs4, hs5, hs6, hs7⟩ := id hS0
  obtain ⟨k00, k01, hg1, hg2⟩ := id hG0
  refine lv_iload_n hx hb d_R_person_0 rfl (lv_at hl 1 rfl) ?_
  refine nr_iconst hx hb 0 d_R_person_1 (by decide) ?_
  refine nr_bipush hx hb 15 d_R_person_2 (by decide) ?_
  refine nr_callv (wr := ([0, 1, 2, 3, 4, 5, 6, 7, 8, 9, 10, 11, 12, 13, 14, 15, 16, 17] : List Nat).filterMap (fun i => (wR ad ca P S G : va_W)[i]?)) (va_runS (As := [.int (nI x), .int (nI 0), .int (nI 15)]) (rest := []) ⟨hx, hb, hml, hown, hts⟩ (r_R_refuseOutside l D x 0 15 (by omega) (by omega) (by omega) H.size) ⟨callB_of 3 hts (gTB q_R_refuseOutside) rfl rfl rfl (htb _ q1) (htb _ q244) hd_R_refuseOutside ⟨Nat.le_of_ble_eq_true rfl, Nat.le_of_ble_eq_true rfl⟩, (htb _ q245)⟩ ⟨rw_blind, rw_pre hN (hP.sub (ws' := []) [] rfl) (hK.sub (tys' := []) [] rfl) (hD.sub (ws' := []) [] (by decide) rfl)⟩ rfl rfl hl.1 rfl (lv_room (Nat.le_of_ble_eq_true rfl)) d_R_person_4 ⟨Nat.le_of_ble_eq_true rfl, Nat.le_of_ble_eq_true rfl⟩) hP hD hS hA [] [0, 1, 2, 3, 4, 5, 6, 7, 8, 9, 10, 11, 12, 13, 14, 15, 16, 17] rfl rfl (by decide) (by decide) (fun u_1 H locs hu_1 hP hD hS => ?_)
  replace hP := hP.sub (ws' := wR ad ca P S G) [0, 1, 2, 3, 4, 5, 6, 7, 8, 9, 10, 11, 12, 13, 14, 15, 16, 17] rfl
  replace hD := hD.sub (ws' := wR ad ca P S G) [0, 1, 2, 3, 4, 5, 6, 7, 8, 9, 10, 11, 12, 13, 14, 15, 16, 17] (by decide) rfl
  refine lv_iload_n hx hb d_R_person_7 rfl (lv_at hl 2 rfl) ?_
  refine nr_iconst hx hb 0 d_R_person_8 (by decide) ?_
  refine nr_sipush hx hb 10000 d_R_person_9 (by decide) ?_
  refine nr_callv (wr := ([0, 1, 2, 3, 4, 5, 6, 7, 8, 9, 10, 11, 12, 13, 14, 15, 16, 17] : List Nat).filterMap (fun i => (wR ad ca P S G : va_W)[i]?)) (va_runS (As := [.int (nI y), .int (nI 0), .int (nI 10000)]) (rest := []) ⟨hx, hb, hml, hown, hts⟩ (r_R_refuseOutside l D y 0 10000 (by omega) (by omega) (by omega) H.size) ⟨callB_of 3 hts (gTB q_R_refuseOutside) rfl rfl rfl (htb _ q1) (htb _ q244) hd_R_refuseOutside ⟨Nat.le_of_ble_eq_true rfl, Nat.le_of_ble_eq_true rfl⟩, (htb _ q245)⟩ ⟨rw_blind, rw_pre hN (hP.sub (ws' := []) [] rfl) (hK.sub (tys' := []) [] rfl) (hD.sub (ws' := []) [] (by decide) rfl)⟩ rfl rfl hl.1 rfl (lv_room (Nat.le_of_ble_eq_true rfl)) d_R_person_12 ⟨Nat.le_of_ble_eq_true rfl, Nat.le_of_ble_eq_true rfl⟩) hP hD hS hA [] [0, 1, 2, 3, 4, 5, 6, 7, 8, 9, 10, 11, 12, 13, 14, 15, 16, 17] rfl rfl (by decide) (by decide) (fun u_2 H locs hu_2 hP hD hS => ?_)
  replace hP := hP.sub (ws' := wR ad ca P S G) [0, 1, 2, 3, 4, 5, 6, 7, 8, 9, 10, 11, 12, 13, 14, 15, 16, 17] rfl
  replace hD := hD.sub (ws' := wR ad ca P S G) [0, 1, 2, 3, 4, 5, 6, 7, 8, 9, 10, 11, 12, 13, 14, 15, 16, 17] (by decide) rfl
  refine lv_aload_n hx hb d_R_person_15 rfl (lv_at hl 0 rfl) ?_
  refine va_get (D := D) (ci := 2) (v := .ref (ad 1)) (C := R_R) (T := F_R) (N := 6) hx hb htb u_R hown hK hP 15 rfl rfl 0 (by decide) (htb _ q134) (fun _ h9 => h9) rfl d_R_person_16 ?_
  refine va_getN (D := D) (ci := 0) (v := .int (nI (P 0 0))) (C := R_P) (T := F_P) (N := 12) hx hb htb u_P hown hK hP 0 rfl rfl 0 (by decide) (hN.at q30 rfl rfl) (fun _ h9 => h9) rfl d_R_person_19 ?_
  refine nr_bipush hx hb 6 d_R_person_22 (by decide) ?_
  intro T hT X
  exact nr_out (nr_runST (As := [.int (nI (P 0 0)), .int (nI 6)]) (rest := []) ⟨hx, hb, hml, hown, hts⟩ (t_R_refuseFull l htr (nI (P 0 0)) (nI 6) (by rw [hfull]; decide)) ⟨callB_of 2 hts (gTB q_R_refuseFull) rfl rfl rfl (htb _ q1) (htb _ q333) hd_R_refuseFull ⟨Nat.le_of_ble_eq_true rfl, Nat.le_of_ble_eq_true rfl⟩, (htb _ q334)⟩ ⟨tx_blind, fun U hU hW => ⟨rfl, hN.warm hW, tx_keep hX hPs (by rw [hAe]; exact hS) U hU hW⟩⟩ rfl rfl hl.1 rfl (lv_room (Nat.le_of_ble_eq_true rfl)) d_R_person_24 ⟨Nat.le_of_ble_eq_true rfl, Nat.le_of_ble_eq_true rfl⟩) (no_handlers X B.named (hts _ List.mem_cons_self) _) hS.2.2 (fun _ h => h.elim) hlocks (fun v st t U h0 hw hq hU hW => tqw_at hP h0 hS.1 hw hq hU) T hT X
set_option maxHeartbeats 4000000 in
set_option maxRecDepth 100000 in
theorem t_R_need_1a (l : Launch) (htr : l.stackTraces = false) (D : va_G) (ad : Nat → Nat) (ca : Nat → ClassId) (P S G : Nat → Nat → Nat) (hP0 : okP P) (hS0 : okS S) (hG0 : okG G) (d sf x y : Int32) (hbad : inR d (P 0 1) = false) (sz : Nat) : MetT l y_R_need w_R_need { frames := 8, cells := 1, slots := 6, locals := 180 } (tw_P [.ref (ad 0), .int d, .int sf, .int x, .int y] D (wR ad ca P S G) (tR ca) sz) (tqw "java/lang/IllegalArgumentException" D (wR ad ca P S G)) 1 6 (va_A (wR ad ca P S G) sz) := by
  refine MetT.ofW (cc := b_R_need) (maxL := 5) (ret := none) (by decide) rfl ?_
  intro p e s m args below meth c s₁ B hml hv
  obtain ⟨rfl, hsz, hN, hX, hP, hK, hD0⟩ := hv
  have hx := B.exec
  have hb := B.bytes
  have hts := atoms_spec (ws := w_R_need) B.pre
  have htb : ∀ w ∈ TBG, w.before [.ref (ad 0), .int d, .int sf, .int x, .int y].toArray s = true := fun w h => hts w (List.mem_cons_of_mem _ h)
  have hown : s.vm.findClass R_R = some m.cls := findClass_of_methodNamed B.named
  have hlocks := B.notSynchronized
  subst hsz
  have hD := hD0.self (sz := s.heap.size)
  have hPs := hP
  generalize hAe : va_A (wR ad ca P S G) s.heap.size = A at hD ⊢
  have hA : ∀ q : Nat, s.heap.size ≤ q → A q := fun q h => by rw [← hAe]; exact Or.inr h
  have hS : va_S A s.heap s.heap [] := va_S.rf
  have hl := lv_entry ([.ref (ad 0), .int d, .int sf, .int x, .int y]) (n := 5) (Nat.le_of_ble_eq_true rfl)
  rw [lg_entry_eq]
  generalize (lg_sl ([.ref (ad 0), .int d, .int sf, .int x, .int y]) ++ List.replicate (5 - (lg_sl ([.ref (ad 0), .int d, .int sf, .int x, .int y])).length) Slot.unset).toArray = ls at hl ⊢
  have hl : lv_has ls 5 [(0, .ref (ad 0)), (1, .int d), (2, .int sf), (3, .int x), (4, .int y)] := hl
  refine nr_start hP hS (fun H locs hP hS => ?_)
  obtain ⟨h00, h01, h02, h03, h04, h05, hp1, hp2, hp3, hp4, hp5, hp6⟩ := id hP0
  obtain ⟨g00, g01, g02, g03, g04, g05, g06, hs1, hs2, hs3, hs4, hs5, hs6, hs7⟩ := id hS0
  obtain ⟨k00, k01, hg1, hg2⟩ := id hG0
  refine lv_aload_n hx hb d_R_need_0 rfl (lv_at hl 0 rfl) ?_
  refine lv_iload_n hx hb d_R_need_1 rfl (lv_at hl 1 rfl) ?_
  intro T hT X
  exact nr_out (nr_runVT (As := [.int d]) (rest := []) ⟨hx, hb, hml, hown, hts⟩ (t_R_refuseUnknownDay l htr D ad ca P S G hP0 hS0 hG0 d hbad H.size) ⟨callB_of 1 hts (gTB q_R_refuseUnknownDay) rfl rfl rfl (htb _ q1) (htb _ q364) hd_R_refuseUnknownDay ⟨Nat.le_of_ble_eq_true rfl, Nat.le_of_ble_eq_true rfl⟩, (htb _ q366), (htb _ sel_R_refuseUnknownDay)⟩ ⟨tw_blind, va_recv (hK.sub (tys' := []) [] rfl) hP (ci := 2) (q0 := 15) rfl rfl, fun U hU hW => ⟨rfl, by rw [hU], hN.warm hW, tx_keep hX hPs (by rw [hAe]; exact hS) U hU hW, by rw [hU]; exact hP, va_K.moved hW.alike hK, hD.weaken (fun _ _ _ _ => trivial)⟩⟩ rfl rfl hl.1 rfl (lv_room (Nat.le_of_ble_eq_true rfl)) d_R_need_2 ⟨Nat.le_of_ble_eq_true rfl, Nat.le_of_ble_eq_true rfl⟩) (no_handlers X B.named (hts _ List.mem_cons_self) _) hS.2.2 (va_free (wc := (wR ad ca P S G)) hD hS hA [0, 1, 2, 3, 4, 5, 6, 7, 8, 9, 10, 11, 12, 13, 14, 15, 16, 17] rfl) hlocks (fun v st t U h0 hw hq hU hW => tqw_up h0 hS.1 hw hq hU) T hT X
set_option maxHeartbeats 4000000 in
set_option maxRecDepth 100000 in
theorem t_R_need_1b (l : Launch) (htr : l.stackTraces = false) (D : va_G) (ad : Nat → Nat) (ca : Nat → ClassId) (P S G : Nat → Nat → Nat) (hP0 : okP P) (hS0 : okS S) (hG0 : okG G) (d : Nat) (sf x y : Int32) (h_d : d < P 0 1) (hbad : decide (nI 1 ≤ sf ∧ sf ≤ nI 3) = false) (sz : Nat) : MetT l y_R_need w_R_need { frames := 8, cells := 1, slots := 6, locals := 180 } (tw_P [.ref (ad 0), .int (nI d), .int sf, .int x, .int y] D (wR ad ca P S G) (tR ca) sz) (tqw "java/lang/IllegalArgumentException" D (wR ad ca P S G)) 1 6 (va_A (wR ad ca P S G) sz) := by
  refine MetT.ofW (cc := b_R_need) (maxL := 5) (ret := none) (by decide) rfl ?_
  intro p e s m args below meth c s₁ B hml hv
  obtain ⟨rfl, hsz, hN, hX, hP, hK, hD0⟩ := hv
  have hx := B.exec
  have hb := B.bytes
  have hts := atoms_spec (ws := w_R_need) B.pre
  have htb : ∀ w ∈ TBG, w.before [.ref (ad 0), .int (nI d), .int sf, .int x, .int y].toArray s = true := fun w h => hts w (List.mem_cons_of_mem _ h)
  have hown : s.vm.findClass R_R = some m.cls := findClass_of_methodNamed B.named
  have hlocks := B.notSynchronized
  subst hsz
  have hD := hD0.self (sz := s.heap.size)
  have hPs := hP
  generalize hAe : va_A (wR ad ca P S G) s.heap.size = A at hD ⊢
  have hA : ∀ q : Nat, s.heap.size ≤ q → A q := fun q h => by rw [← hAe]; exact Or.inr h
  have hS : va_S A s.heap s.heap [] := va_S.rf
  have hl := lv_entry ([.ref (ad 0), .int (nI d), .int sf, .int x, .int y]) (n := 5) (Nat.le_of_ble_eq_true rfl)
  rw [lg_entry_eq]
  generalize (lg_sl ([.ref (ad 0), .int (nI d), .int sf, .int x, .int y]) ++ List.replicate (5 - (lg_sl ([.ref (ad 0), .int (nI d), .int sf, .int x, .int y])).length) Slot.unset).toArray = ls at hl ⊢
  have hl : lv_has ls 5 [(0, .ref (ad 0)), (1, .int (nI d)), (2, .int sf), (3, .int x), (4, .int y)] := hl
  refine nr_start hP hS (fun H locs hP hS => ?_)
  obtain ⟨h00, h01, h02, h03, h04, h05, hp1, hp2, hp3, hp4, hp5, hp6⟩ := id hP0
  obtain ⟨g00, g01, g02, g03, g04, g05, g06, hs1, hs2, hs3, hs4, hs5, hs6, hs7⟩ := id hS0
  obtain ⟨k00, k01, hg1, hg2⟩ := id hG0
  refine lv_aload_n hx hb d_R_need_0 rfl (lv_at hl 0 rfl) ?_
  refine lv_iload_n hx hb d_R_need_1 rfl (lv_at hl 1 rfl) ?_
  refine nr_callv (wr := ([] : va_W)) (va_runV (As := [.int (nI d)]) (rest := []) ⟨hx, hb, hml, hown, hts⟩ (r_R_refuseUnknownDay l D ad ca P S G hP0 hS0 hG0 d (by omega) H.size) ⟨callB_of 1 hts (gTB q_R_refuseUnknownDay) rfl rfl rfl (htb _ q1) (htb _ q364) hd_R_refuseUnknownDay ⟨Nat.le_of_ble_eq_true rfl, Nat.le_of_ble_eq_true rfl⟩, (htb _ q366), (htb _ sel_R_refuseUnknownDay)⟩ ⟨rw_blind, va_recv (hK.sub (tys' := []) [] rfl) hP (ci := 2) (q0 := 15) rfl rfl, rw_pre hN (hP.sub (ws' := (wR ad ca P S G)) [0, 1, 2, 3, 4, 5, 6, 7, 8, 9, 10, 11, 12, 13, 14, 15, 16, 17] rfl) (hK.sub (tys' := (tR ca)) [0, 1, 2, 3, 4, 5, 6, 7, 8, 9, 10, 11, 12, 13, 14] rfl) (hD.sub (ws' := (wR ad ca P S G)) [0, 1, 2, 3, 4, 5, 6, 7, 8, 9, 10, 11, 12, 13, 14, 15, 16, 17] (by decide) rfl)⟩ rfl rfl hl.1 rfl (lv_room (Nat.le_of_ble_eq_true rfl)) d_R_need_2 ⟨Nat.le_of_ble_eq_true rfl, Nat.le_of_ble_eq_true rfl⟩) hP hD hS hA [0, 1, 2, 3, 4, 5, 6, 7, 8, 9, 10, 11, 12, 13, 14, 15, 16, 17] [] rfl rfl (by decide) (by decide) (fun u_1 H locs hu_1 hP hD hS => ?_)
  replace hP := hP.sub (ws' := wR ad ca P S G) [0, 1, 2, 3, 4, 5, 6, 7, 8, 9, 10, 11, 12, 13, 14, 15, 16, 17] rfl
  replace hD := hD.sub (ws' := wR ad ca P S G) [0, 1, 2, 3, 4, 5, 6, 7, 8, 9, 10, 11, 12, 13, 14, 15, 16, 17] (by decide) rfl
  refine lv_iload_n hx hb d_R_need_5 rfl (lv_at hl 2 rfl) ?_
  refine nr_iconst hx hb 1 d_R_need_6 (by decide) ?_
  refine nr_iconst hx hb 3 d_R_need_7 (by decide) ?_
  intro T hT X
  exact nr_out (nr_runST (As := [.int sf, .int (nI 1), .int (nI 3)]) (rest := []) ⟨hx, hb, hml, hown, hts⟩ (t_R_refuseUnknown l htr sf (nI 1) (nI 3) (in_bad hbad)) ⟨callB_of 3 hts (gTB q_R_refuseUnknown) rfl rfl rfl (htb _ q1) (htb _ q368) hd_R_refuseUnknown ⟨Nat.le_of_ble_eq_true rfl, Nat.le_of_ble_eq_true rfl⟩, (htb _ q369)⟩ ⟨tx_blind, fun U hU hW => ⟨rfl, hN.warm hW, tx_keep hX hPs (by rw [hAe]; exact hS) U hU hW⟩⟩ rfl rfl hl.1 rfl (lv_room (Nat.le_of_ble_eq_true rfl)) d_R_need_8 ⟨Nat.le_of_ble_eq_true rfl, Nat.le_of_ble_eq_true rfl⟩) (no_handlers X B.named (hts _ List.mem_cons_self) _) hS.2.2 (fun _ h => h.elim) hlocks (fun v st t U h0 hw hq hU hW => tqw_at hP h0 hS.1 hw hq hU) T hT X
set_option maxHeartbeats 4000000 in
set_option maxRecDepth 100000 in
theorem t_R_need_2a (l : Launch) (htr : l.stackTraces = false) (D : va_G) (ad : Nat → Nat) (ca : Nat → ClassId) (P S G : Nat → Nat → Nat) (hP0 : okP P) (hS0 : okS S) (hG0 : okG G) (d sf : Nat) (x y : Int32) (h_d : d < P 0 1) (h_sf : 1 ≤ sf ∧ sf ≤ 3) (hbad : decide (nI 0 ≤ x ∧ x ≤ nI 6) = false) (sz : Nat) : MetT l y_R_need w_R_need { frames := 8, cells := 1, slots := 6, locals := 180 } (tw_P [.ref (ad 0), .int (nI d), .int (nI sf), .int x, .int y] D (wR ad ca P S G) (tR ca) sz) (tqw "java/lang/IndexOutOfBoundsException" D (wR ad ca P S G)) 1 6 (va_A (wR ad ca P S G) sz) := by
  refine MetT.ofW (cc := b_R_need) (maxL := 5) (ret := none) (by decide) rfl ?_
  intro p e s m args below meth c s₁ B hml hv
  obtain ⟨rfl, hsz, hN, hX, hP, hK, hD0⟩ := hv
  have hx := B.exec
  have hb := B.bytes
  have hts := atoms_spec (ws := w_R_need) B.pre
  have htb : ∀ w ∈ TBG, w.before [.ref (ad 0), .int (nI d), .int (nI sf), .int x, .int y].toArray s = true := fun w h => hts w (List.mem_cons_of_mem _ h)
  have hown : s.vm.findClass R_R = some m.cls := findClass_of_methodNamed B.named
  have hlocks := B.notSynchronized
  subst hsz
  have hD := hD0.self (sz := s.heap.size)
  have hPs := hP
  generalize hAe : va_A (wR ad ca P S G) s.heap.size = A at hD ⊢
  have hA : ∀ q : Nat, s.heap.size ≤ q → A q := fun q h => by rw [← hAe]; exact Or.inr h
  have hS : va_S A s.heap s.heap [] := va_S.rf
  have hl := lv_entry ([.ref (ad 0), .int (nI d), .int (nI sf), .int x, .int y]) (n := 5) (Nat.le_of_ble_eq_true rfl)
  rw [lg_entry_eq]
  generalize (lg_sl ([.ref (ad 0), .int (nI d), .int (nI sf), .int x, .int y]) ++ List.replicate (5 - (lg_sl ([.ref (ad 0), .int (nI d), .int (nI sf), .int x, .int y])).length) Slot.unset).toArray = ls at hl ⊢
  have hl : lv_has ls 5 [(0, .ref (ad 0)), (1, .int (nI d)), (2, .int (nI sf)), (3, .int x), (4, .int y)] := hl
  refine nr_start hP hS (fun H locs hP hS => ?_)
  obtain ⟨h00, h01, h02, h03, h04, h05, hp1, hp2, hp3, hp4, hp5, hp6⟩ := id hP0
  obtain ⟨g00, g01, g02, g03, g04, g05, g06, hs1, hs2, hs3, hs4, hs5, hs6, hs7⟩ := id hS0
  obtain ⟨k00, k01, hg1, hg2⟩ := id hG0
  refine lv_aload_n hx hb d_R_need_0 rfl (lv_at hl 0 rfl) ?_
  refine lv_iload_n hx hb d_R_need_1 rfl (lv_at hl 1 rfl) ?_
  refine nr_callv (wr := ([] : va_W)) (va_runV (As := [.int (nI d)]) (rest := []) ⟨hx, hb, hml, hown, hts⟩ (r_R_refuseUnknownDay l D ad ca P S G hP0 hS0 hG0 d (by omega) H.size) ⟨callB_of 1 hts (gTB q_R_refuseUnknownDay) rfl rfl rfl (htb _ q1) (htb _ q364) hd_R_refuseUnknownDay ⟨Nat.le_of_ble_eq_true rfl, Nat.le_of_ble_eq_true rfl⟩, (htb _ q366), (htb _ sel_R_refuseUnknownDay)⟩ ⟨rw_blind, va_recv (hK.sub (tys' := []) [] rfl) hP (ci := 2) (q0 := 15) rfl rfl, rw_pre hN (hP.sub (ws' := (wR ad ca P S G)) [0, 1, 2, 3, 4, 5, 6, 7, 8, 9, 10, 11, 12, 13, 14, 15, 16, 17] rfl) (hK.sub (tys' := (tR ca)) [0, 1, 2, 3, 4, 5, 6, 7, 8, 9, 10, 11, 12, 13, 14] rfl) (hD.sub (ws' := (wR ad ca P S G)) [0, 1, 2, 3, 4, 5, 6, 7, 8, 9, 10, 11, 12, 13, 14, 15, 16, 17] (by decide) rfl)⟩ rfl rfl hl.1 rfl (lv_room (Nat.le_of_ble_eq_true rfl)) d_R_need_2 ⟨Nat.le_of_ble_eq_true rfl, Nat.le_of_ble_eq_true rfl⟩) hP hD hS hA [0, 1, 2, 3, 4, 5, 6, 7, 8, 9, 10, 11, 12, 13, 14, 15, 16, 17] [] rfl rfl (by decide) (by decide) (fun u_1 H locs hu_1 hP hD hS => ?_)
  replace hP := hP.sub (ws' := wR ad ca P S G) [0, 1, 2, 3, 4, 5, 6, 7, 8, 9, 10, 11, 12, 13, 14, 15, 16, 17] rfl
  replace hD := hD.sub (ws' := wR ad ca P S G) [0, 1, 2, 3, 4, 5, 6, 7, 8, 9, 10, 11, 12, 13, 14, 15, 16, 17] (by decide) rfl
  refine lv_iload_n hx hb d_R_need_5 rfl (lv_at hl 2 rfl) ?_
  refine nr_iconst hx hb 1 d_R_need_6 (by decide) ?_
  refine nr_iconst hx hb 3 d_R_need_7 (by decide) ?_
  refine nr_callv (wr := ([0, 1, 2, 3, 4, 5, 6, 7, 8, 9, 10, 11, 12, 13, 14, 15, 16, 17] : List Nat).filterMap (fun i => (wR ad ca P S G : va_W)[i]?)) (va_runS (As := [.int (nI sf), .int (nI 1), .int (nI 3)]) (rest := []) ⟨hx, hb, hml, hown, hts⟩ (r_R_refuseUnknown l D sf 1 3 (by omega) (by omega) (by omega) H.size) ⟨callB_of 3 hts (gTB q_R_refuseUnknown) rfl rfl rfl (htb _ q1) (htb _ q368) hd_R_refuseUnknown ⟨Nat.le_of_ble_eq_true rfl, Nat.le_of_ble_eq_true rfl⟩, (htb _ q369)⟩ ⟨rw_blind, rw_pre hN (hP.sub (ws' := []) [] rfl) (hK.sub (tys' := []) [] rfl) (hD.sub (ws' := []) [] (by decide) rfl)⟩ rfl rfl hl.1 rfl (lv_room (Nat.le_of_ble_eq_true rfl)) d_R_need_8 ⟨Nat.le_of_ble_eq_true rfl, Nat.le_of_ble_eq_true rfl⟩) hP hD hS hA [] [0, 1, 2, 3, 4, 5, 6, 7, 8, 9, 10, 11, 12, 13, 14, 15, 16, 17] rfl rfl (by decide) (by decide) (fun u_2 H locs hu_2 hP hD hS => ?_)
  replace hP := hP.sub (ws' := wR ad ca P S G) [0, 1, 2, 3, 4, 5, 6, 7, 8, 9, 10, 11, 12, 13, 14, 15, 16, 17] rfl
  replace hD := hD.sub (ws' := wR ad ca P S G) [0, 1, 2, 3, 4, 5, 6, 7, 8, 9, 10, 11, 12, 13, 14, 15, 16, 17] (by decide) rfl
  refine lv_iload_n hx hb d_R_need_11 rfl (lv_at hl 3 rfl) ?_
  refine nr_iconst hx hb 0 d_R_need_12 (by decide) ?_
  refine nr_bipush hx hb 6 d_R_need_13 (by decide) ?_
  intro T hT X
  exact nr_out (nr_runST (As := [.int x, .int (nI 0), .int (nI 6)]) (rest := []) ⟨hx, hb, hml, hown, hts⟩ (t_R_refuseOutside l htr x (nI 0) (nI 6) (in_bad hbad)) ⟨callB_of 3 hts (gTB q_R_refuseOutside) rfl rfl rfl (htb _ q1) (htb _ q244) hd_R_refuseOutside ⟨Nat.le_of_ble_eq_true rfl, Nat.le_of_ble_eq_true rfl⟩, (htb _ q245)⟩ ⟨tx_blind, fun U hU hW => ⟨rfl, hN.warm hW, tx_keep hX hPs (by rw [hAe]; exact hS) U hU hW⟩⟩ rfl rfl hl.1 rfl (lv_room (Nat.le_of_ble_eq_true rfl)) d_R_need_15 ⟨Nat.le_of_ble_eq_true rfl, Nat.le_of_ble_eq_true rfl⟩) (no_handlers X B.named (hts _ List.mem_cons_self) _) hS.2.2 (fun _ h => h.elim) hlocks (fun v st t U h0 hw hq hU hW => tqw_at hP h0 hS.1 hw hq hU) T hT X
set_option maxHeartbeats 4000000 in
set_option maxRecDepth 100000 in
theorem t_R_need_2b (l : Launch) (htr : l.stackTraces = false) (D : va_G) (ad : Nat → Nat) (ca : Nat → ClassId) (P S G : Nat → Nat → Nat) (hP0 : okP P) (hS0 : okS S) (hG0 : okG G) (d sf x : Nat) (y : Int32) (h_d : d < P 0 1) (h_sf : 1 ≤ sf ∧ sf ≤ 3) (h_x : 0 ≤ x ∧ x ≤ 6) (hbad : decide (nI 0 ≤ y ∧ y ≤ nI 15) = false) (sz : Nat) : MetT l y_R_need w_R_need { frames := 8, cells := 1, slots := 6, locals := 180 } (tw_P [.ref (ad 0), .int (nI d), .int (nI sf), .int (nI x), .int y] D (wR ad ca P S G) (tR ca) sz) (tqw "java/lang/IndexOutOfBoundsException" D (wR ad ca P S G)) 1 6 (va_A (wR ad ca P S G) sz) := by
  refine MetT.ofW (cc := b_R_need) (maxL := 5) (ret := none) (by decide) rfl ?_
  intro p e s m args below meth c s₁ B hml hv
  obtain ⟨rfl, hsz, hN, hX, hP, hK, hD0⟩ := hv
  have hx := B.exec
  have hb := B.bytes
  have hts := atoms_spec (ws := w_R_need) B.pre
  have htb : ∀ w ∈ TBG, w.before [.ref (ad 0), .int (nI d), .int (nI sf), .int (nI x), .int y].toArray s = true := fun w h => hts w (List.mem_cons_of_mem _ h)
  have hown : s.vm.findClass R_R = some m.cls := findClass_of_methodNamed B.named
  have hlocks := B.notSynchronized
  subst hsz
  have hD := hD0.self (sz := s.heap.size)
  have hPs := hP
  generalize hAe : va_A (wR ad ca P S G) s.heap.size = A at hD ⊢
  have hA : ∀ q : Nat, s.heap.size ≤ q → A q := fun q h => by rw [← hAe]; exact Or.inr h
  have hS : va_S A s.heap s.heap [] := va_S.rf
  have hl := lv_entry ([.ref (ad 0), .int (nI d), .int (nI sf), .int (nI x), .int y]) (n := 5) (Nat.le_of_ble_eq_true rfl)
  rw [lg_entry_eq]
  generalize (lg_sl ([.ref (ad 0), .int (nI d), .int (nI sf), .int (nI x), .int y]) ++ List.replicate (5 - (lg_sl ([.ref (ad 0), .int (nI d), .int (nI sf), .int (nI x), .int y])).length) Slot.unset).toArray = ls at hl ⊢
  have hl : lv_has ls 5 [(0, .ref (ad 0)), (1, .int (nI d)), (2, .int (nI sf)), (3, .int (nI x)), (4, .int y)] := hl
  refine nr_start hP hS (fun H locs hP hS => ?_)
  obtain ⟨h00, h01, h02, h03, h04, h05, hp1, hp2, hp3, hp4, hp5, hp6⟩ := id hP0
  obtain ⟨g00, g01, g02, g03, g04, g05, g06, hs1, hs2, hs3, hs4, hs5, hs6, hs7⟩ := id hS0
  obtain ⟨k00, k01, hg1, hg2⟩ := id hG0
  refine lv_aload_n hx hb d_R_need_0 rfl (lv_at hl 0 rfl) ?_
  refine lv_iload_n hx hb d_R_need_1 rfl (lv_at hl 1 rfl) ?_
  refine nr_callv (wr := ([] : va_W)) (va_runV (As := [.int (nI d)]) (rest := []) ⟨hx, hb, hml, hown, hts⟩ (r_R_refuseUnknownDay l D ad ca P S G hP0 hS0 hG0 d (by omega) H.size) ⟨callB_of 1 hts (gTB q_R_refuseUnknownDay) rfl rfl rfl (htb _ q1) (htb _ q364) hd_R_refuseUnknownDay ⟨Nat.le_of_ble_eq_true rfl, Nat.le_of_ble_eq_true rfl⟩, (htb _ q366), (htb _ sel_R_refuseUnknownDay)⟩ ⟨rw_blind, va_recv (hK.sub (tys' := []) [] rfl) hP (ci := 2) (q0 := 15) rfl rfl, rw_pre hN (hP.sub (ws' := (wR ad ca P S G)) [0, 1, 2, 3, 4, 5, 6, 7, 8, 9, 10, 11, 12, 13, 14, 15, 16, 17] rfl) (hK.sub (tys' := (tR ca)) [0, 1, 2, 3, 4, 5, 6, 7, 8, 9, 10, 11, 12, 13, 14] rfl) (hD.sub (ws' := (wR ad ca P S G)) [0, 1, 2, 3, 4, 5, 6, 7, 8, 9, 10, 11, 12, 13, 14, 15, 16, 17] (by decide) rfl)⟩ rfl rfl hl.1 rfl (lv_room (Nat.le_of_ble_eq_true rfl)) d_R_need_2 ⟨Nat.le_of_ble_eq_true rfl, Nat.le_of_ble_eq_true rfl⟩) hP hD hS hA [0, 1, 2, 3, 4, 5, 6, 7, 8, 9, 10, 11, 12, 13, 14, 15, 16, 17] [] rfl rfl (by decide) (by decide) (fun u_1 H locs hu_1 hP hD hS => ?_)
  replace hP := hP.sub (ws' := wR ad ca P S G) [0, 1, 2, 3, 4, 5, 6, 7, 8, 9, 10, 11, 12, 13, 14, 15, 16, 17] rfl
  replace hD := hD.sub (ws' := wR ad ca P S G) [0, 1, 2, 3, 4, 5, 6, 7, 8, 9, 10, 11, 12, 13, 14, 15, 16, 17] (by decide) rfl
  refine lv_iload_n hx hb d_R_need_5 rfl (lv_at hl 2 rfl) ?_
  refine nr_iconst hx hb 1 d_R_need_6 (by decide) ?_
  refine nr_iconst hx hb 3 d_R_need_7 (by decide) ?_
  refine nr_callv (wr := ([0, 1, 2, 3, 4, 5, 6, 7, 8, 9, 10, 11, 12, 13, 14, 15, 16, 17] : List Nat).filterMap (fun i => (wR ad ca P S G : va_W)[i]?)) (va_runS (As := [.int (nI sf), .int (nI 1), .int (nI 3)]) (rest := []) ⟨hx, hb, hml, hown, hts⟩ (r_R_refuseUnknown l D sf 1 3 (by omega) (by omega) (by omega) H.size) ⟨callB_of 3 hts (gTB q_R_refuseUnknown) rfl rfl rfl (htb _ q1) (htb _ q368) hd_R_refuseUnknown ⟨Nat.le_of_ble_eq_true rfl, Nat.le_of_ble_eq_true rfl⟩, (htb _ q369)⟩ ⟨rw_blind, rw_pre hN (hP.sub (ws' := []) [] rfl) (hK.sub (tys' := []) [] rfl) (hD.sub (ws' := []) [] (by decide) rfl)⟩ rfl rfl hl.1 rfl (lv_room (Nat.le_of_ble_eq_true rfl)) d_R_need_8 ⟨Nat.le_of_ble_eq_true rfl, Nat.le_of_ble_eq_true rfl⟩) hP hD hS hA [] [0, 1, 2, 3, 4, 5, 6, 7, 8, 9, 10, 11, 12, 13, 14, 15, 16, 17] rfl rfl (by decide) (by decide) (fun u_2 H locs hu_2 hP hD hS => ?_)
  replace hP := hP.sub (ws' := wR ad ca P S G) [0, 1, 2, 3, 4, 5, 6, 7, 8, 9, 10, 11, 12, 13, 14, 15, 16, 17] rfl
  replace hD := hD.sub (ws' := wR ad ca P S G) [0, 1, 2, 3, 4, 5, 6, 7, 8, 9, 10, 11, 12, 13, 14, 15, 16, 17] (by decide) rfl
  refine lv_iload_n hx hb d_R_need_11 rfl (lv_at hl 3 rfl) ?_
  refine nr_iconst hx hb 0 d_R_need_12 (by decide) ?_
  refine nr_bipush hx hb 6 d_R_need_13 (by decide) ?_
  refine nr_callv (wr := ([0, 1, 2, 3, 4, 5, 6, 7, 8, 9, 10, 11, 12, 13, 14, 15, 16, 17] : List Nat).filterMap (fun i => (wR ad ca P S G : va_W)[i]?)) (va_runS (As := [.int (nI x), .int (nI 0), .int (nI 6)]) (rest := []) ⟨hx, hb, hml, hown, hts⟩ (r_R_refuseOutside l D x 0 6 (by omega) (by omega) (by omega) H.size) ⟨callB_of 3 hts (gTB q_R_refuseOutside) rfl rfl rfl (htb _ q1) (htb _ q244) hd_R_refuseOutside ⟨Nat.le_of_ble_eq_true rfl, Nat.le_of_ble_eq_true rfl⟩, (htb _ q245)⟩ ⟨rw_blind, rw_pre hN (hP.sub (ws' := []) [] rfl) (hK.sub (tys' := []) [] rfl) (hD.sub (ws' := []) [] (by decide) rfl)⟩ rfl rfl hl.1 rfl (lv_room (Nat.le_of_ble_eq_true rfl)) d_R_need_15 ⟨Nat.le_of_ble_eq_true rfl, Nat.le_of_ble_eq_true rfl⟩) hP hD hS hA [] [0, 1, 2, 3, 4, 5, 6, 7, 8, 9, 10, 11, 12, 13, 14, 15, 16, 17] rfl rfl (by decide) (by decide) (fun u_3 H locs hu_3 hP hD hS => ?_)
  replace hP := hP.sub (ws' := wR ad ca P S G) [0, 1, 2, 3, 4, 5, 6, 7, 8, 9, 10, 11, 12, 13, 14, 15, 16, 17] rfl
  replace hD := hD.sub (ws' := wR ad ca P S G) [0, 1, 2, 3, 4, 5, 6, 7, 8, 9, 10, 11, 12, 13, 14, 15, 16, 17] (by decide) rfl
  refine lv_iload hx hb d_R_need_18 (lv_at hl 4 rfl) ?_
  refine nr_iconst hx hb 0 d_R_need_20 (by decide) ?_
  refine nr_bipush hx hb 15 d_R_need_21 (by decide) ?_
  intro T hT X
  exact nr_out (nr_runST (As := [.int y, .int (nI 0), .int (nI 15)]) (rest := []) ⟨hx, hb, hml, hown, hts⟩ (t_R_refuseOutside l htr y (nI 0) (nI 15) (in_bad hbad)) ⟨callB_of 3 hts (gTB q_R_refuseOutside) rfl rfl rfl (htb _ q1) (htb _ q244) hd_R_refuseOutside ⟨Nat.le_of_ble_eq_true rfl, Nat.le_of_ble_eq_true rfl⟩, (htb _ q245)⟩ ⟨tx_blind, fun U hU hW => ⟨rfl, hN.warm hW, tx_keep hX hPs (by rw [hAe]; exact hS) U hU hW⟩⟩ rfl rfl hl.1 rfl (lv_room (Nat.le_of_ble_eq_true rfl)) d_R_need_23 ⟨Nat.le_of_ble_eq_true rfl, Nat.le_of_ble_eq_true rfl⟩) (no_handlers X B.named (hts _ List.mem_cons_self) _) hS.2.2 (fun _ h => h.elim) hlocks (fun v st t U h0 hw hq hU hW => tqw_at hP h0 hS.1 hw hq hU) T hT X
set_option maxHeartbeats 4000000 in
set_option maxRecDepth 100000 in
theorem t_R_rules_1a (l : Launch) (htr : l.stackTraces = false) (D : va_G) (ad : Nat → Nat) (ca : Nat → ClassId) (P S G : Nat → Nat → Nat) (hP0 : okP P) (hS0 : okS S) (hG0 : okG G) (x y z : Int32) (hbad : decide (nI 0 ≤ x ∧ x ≤ nI 24) = false) (sz : Nat) : MetT l y_R_rules w_R_rules { frames := 8, cells := 1, slots := 6, locals := 180 } (tw_P [.ref (ad 0), .int x, .int y, .int z] D (wR ad ca P S G) (tR ca) sz) (tqw "java/lang/IndexOutOfBoundsException" D (wR ad ca P S G)) 1 6 (va_A (wR ad ca P S G) sz) := by
  refine MetT.ofW (cc := b_R_rules) (maxL := 4) (ret := none) (by decide) rfl ?_
  intro p e s m args below meth c s₁ B hml hv
  obtain ⟨rfl, hsz, hN, hX, hP, hK, hD0⟩ := hv
  have hx := B.exec
  have hb := B.bytes
  have hts := atoms_spec (ws := w_R_rules) B.pre
  have htb : ∀ w ∈ TBG, w.before [.ref (ad 0), .int x, .int y, .int z].toArray s = true := fun w h => hts w (List.mem_cons_of_mem _ h)
  have hown : s.vm.findClass R_R = some m.cls := findClass_of_methodNamed B.named
  have hlocks := B.notSynchronized
  subst hsz
  have hD := hD0.self (sz := s.heap.size)
  have hPs := hP
  generalize hAe : va_A (wR ad ca P S G) s.heap.size = A at hD ⊢
  have hA : ∀ q : Nat, s.heap.size ≤ q → A q := fun q h => by rw [← hAe]; exact Or.inr h
  have hS : va_S A s.heap s.heap [] := va_S.rf
  have hl := lv_entry ([.ref (ad 0), .int x, .int y, .int z]) (n := 4) (Nat.le_of_ble_eq_true rfl)
  rw [lg_entry_eq]
  generalize (lg_sl ([.ref (ad 0), .int x, .int y, .int z]) ++ List.replicate (4 - (lg_sl ([.ref (ad 0), .int x, .int y, .int z])).length) Slot.unset).toArray = ls at hl ⊢
  have hl : lv_has ls 4 [(0, .ref (ad 0)), (1, .int x), (2, .int y), (3, .int z)] := hl
  refine nr_start hP hS (fun H locs hP hS => ?_)
  obtain ⟨h00, h01, h02, h03, h04, h05, hp1, hp2, hp3, hp4, hp5, hp6⟩ := id hP0
  obtain ⟨g00, g01, g02, g03, g04, g05, g06, hs1, hs2, hs3, hs4, hs5, hs6, hs7⟩ := id hS0
  obtain ⟨k00, k01, hg1, hg2⟩ := id hG0
  refine lv_iload_n hx hb d_R_rules_0 rfl (lv_at hl 1 rfl) ?_
  refine nr_iconst hx hb 0 d_R_rules_1 (by decide) ?_
  refine nr_bipush hx hb 24 d_R_rules_2 (by decide) ?_
  intro T hT X
  exact nr_out (nr_runST (As := [.int x, .int (nI 0), .int (nI 24)]) (rest := []) ⟨hx, hb, hml, hown, hts⟩ (t_R_refuseOutside l htr x (nI 0) (nI 24) (in_bad hbad)) ⟨callB_of 3 hts (gTB q_R_refuseOutside) rfl rfl rfl (htb _ q1) (htb _ q244) hd_R_refuseOutside ⟨Nat.le_of_ble_eq_true rfl, Nat.le_of_ble_eq_true rfl⟩, (htb _ q245)⟩ ⟨tx_blind, fun U hU hW => ⟨rfl, hN.warm hW, tx_keep hX hPs (by rw [hAe]; exact hS) U hU hW⟩⟩ rfl rfl hl.1 rfl (lv_room (Nat.le_of_ble_eq_true rfl)) d_R_rules_4 ⟨Nat.le_of_ble_eq_true rfl, Nat.le_of_ble_eq_true rfl⟩) (no_handlers X B.named (hts _ List.mem_cons_self) _) hS.2.2 (fun _ h => h.elim) hlocks (fun v st t U h0 hw hq hU hW => tqw_at hP h0 hS.1 hw hq hU) T hT X
set_option maxHeartbeats 4000000 in
set_option maxRecDepth 100000 in
theorem t_R_rules_1b (l : Launch) (htr : l.stackTraces = false) (D : va_G) (ad : Nat → Nat) (ca : Nat → ClassId) (P S G : Nat → Nat → Nat) (hP0 : okP P) (hS0 : okS S) (hG0 : okG G) (x : Nat) (y z : Int32) (h_x : 0 ≤ x ∧ x ≤ 24) (hbad : decide (nI 0 ≤ y ∧ y ≤ nI 7) = false) (sz : Nat) : MetT l y_R_rules w_R_rules { frames := 8, cells := 1, slots := 6, locals := 180 } (tw_P [.ref (ad 0), .int (nI x), .int y, .int z] D (wR ad ca P S G) (tR ca) sz) (tqw "java/lang/IndexOutOfBoundsException" D (wR ad ca P S G)) 1 6 (va_A (wR ad ca P S G) sz) := by
  refine MetT.ofW (cc := b_R_rules) (maxL := 4) (ret := none) (by decide) rfl ?_
  intro p e s m args below meth c s₁ B hml hv
  obtain ⟨rfl, hsz, hN, hX, hP, hK, hD0⟩ := hv
  have hx := B.exec
  have hb := B.bytes
  have hts := atoms_spec (ws := w_R_rules) B.pre
  have htb : ∀ w ∈ TBG, w.before [.ref (ad 0), .int (nI x), .int y, .int z].toArray s = true := fun w h => hts w (List.mem_cons_of_mem _ h)
  have hown : s.vm.findClass R_R = some m.cls := findClass_of_methodNamed B.named
  have hlocks := B.notSynchronized
  subst hsz
  have hD := hD0.self (sz := s.heap.size)
  have hPs := hP
  generalize hAe : va_A (wR ad ca P S G) s.heap.size = A at hD ⊢
  have hA : ∀ q : Nat, s.heap.size ≤ q → A q := fun q h => by rw [← hAe]; exact Or.inr h
  have hS : va_S A s.heap s.heap [] := va_S.rf
  have hl := lv_entry ([.ref (ad 0), .int (nI x), .int y, .int z]) (n := 4) (Nat.le_of_ble_eq_true rfl)
  rw [lg_entry_eq]
  generalize (lg_sl ([.ref (ad 0), .int (nI x), .int y, .int z]) ++ List.replicate (4 - (lg_sl ([.ref (ad 0), .int (nI x), .int y, .int z])).length) Slot.unset).toArray = ls at hl ⊢
  have hl : lv_has ls 4 [(0, .ref (ad 0)), (1, .int (nI x)), (2, .int y), (3, .int z)] := hl
  refine nr_start hP hS (fun H locs hP hS => ?_)
  obtain ⟨h00, h01, h02, h03, h04, h05, hp1, hp2, hp3, hp4, hp5, hp6⟩ := id hP0
  obtain ⟨g00, g01, g02, g03, g04, g05, g06, hs1, hs2, hs3, hs4, hs5, hs6, hs7⟩ := id hS0
  obtain ⟨k00, k01, hg1, hg2⟩ := id hG0
  refine lv_iload_n hx hb d_R_rules_0 rfl (lv_at hl 1 rfl) ?_
  refine nr_iconst hx hb 0 d_R_rules_1 (by decide) ?_
  refine nr_bipush hx hb 24 d_R_rules_2 (by decide) ?_
  refine nr_callv (wr := ([0, 1, 2, 3, 4, 5, 6, 7, 8, 9, 10, 11, 12, 13, 14, 15, 16, 17] : List Nat).filterMap (fun i => (wR ad ca P S G : va_W)[i]?)) (va_runS (As := [.int (nI x), .int (nI 0), .int (nI 24)]) (rest := []) ⟨hx, hb, hml, hown, hts⟩ (r_R_refuseOutside l D x 0 24 (by omega) (by omega) (by omega) H.size) ⟨callB_of 3 hts (gTB q_R_refuseOutside) rfl rfl rfl (htb _ q1) (htb _ q244) hd_R_refuseOutside ⟨Nat.le_of_ble_eq_true rfl, Nat.le_of_ble_eq_true rfl⟩, (htb _ q245)⟩ ⟨rw_blind, rw_pre hN (hP.sub (ws' := []) [] rfl) (hK.sub (tys' := []) [] rfl) (hD.sub (ws' := []) [] (by decide) rfl)⟩ rfl rfl hl.1 rfl (lv_room (Nat.le_of_ble_eq_true rfl)) d_R_rules_4 ⟨Nat.le_of_ble_eq_true rfl, Nat.le_of_ble_eq_true rfl⟩) hP hD hS hA [] [0, 1, 2, 3, 4, 5, 6, 7, 8, 9, 10, 11, 12, 13, 14, 15, 16, 17] rfl rfl (by decide) (by decide) (fun u_1 H locs hu_1 hP hD hS => ?_)
  replace hP := hP.sub (ws' := wR ad ca P S G) [0, 1, 2, 3, 4, 5, 6, 7, 8, 9, 10, 11, 12, 13, 14, 15, 16, 17] rfl
  replace hD := hD.sub (ws' := wR ad ca P S G) [0, 1, 2, 3, 4, 5, 6, 7, 8, 9, 10, 11, 12, 13, 14, 15, 16, 17] (by decide) rfl
  refine lv_iload_n hx hb d_R_rules_7 rfl (lv_at hl 2 rfl) ?_
  refine nr_iconst hx hb 0 d_R_rules_8 (by decide) ?_
  refine nr_bipush hx hb 7 d_R_rules_9 (by decide) ?_
  intro T hT X
  exact nr_out (nr_runST (As := [.int y, .int (nI 0), .int (nI 7)]) (rest := []) ⟨hx, hb, hml, hown, hts⟩ (t_R_refuseOutside l htr y (nI 0) (nI 7) (in_bad hbad)) ⟨callB_of 3 hts (gTB q_R_refuseOutside) rfl rfl rfl (htb _ q1) (htb _ q244) hd_R_refuseOutside ⟨Nat.le_of_ble_eq_true rfl, Nat.le_of_ble_eq_true rfl⟩, (htb _ q245)⟩ ⟨tx_blind, fun U hU hW => ⟨rfl, hN.warm hW, tx_keep hX hPs (by rw [hAe]; exact hS) U hU hW⟩⟩ rfl rfl hl.1 rfl (lv_room (Nat.le_of_ble_eq_true rfl)) d_R_rules_11 ⟨Nat.le_of_ble_eq_true rfl, Nat.le_of_ble_eq_true rfl⟩) (no_handlers X B.named (hts _ List.mem_cons_self) _) hS.2.2 (fun _ h => h.elim) hlocks (fun v st t U h0 hw hq hU hW => tqw_at hP h0 hS.1 hw hq hU) T hT X
set_option maxHeartbeats 4000000 in
set_option maxRecDepth 100000 in
theorem t_R_rules_1c (l : Launch) (htr : l.stackTraces = false) (D : va_G) (ad : Nat → Nat) (ca : Nat → ClassId) (P S G : Nat → Nat → Nat) (hP0 : okP P) (hS0 : okS S) (hG0 : okG G) (x y : Nat) (z : Int32) (h_x : 0 ≤ x ∧ x ≤ 24) (h_y : 0 ≤ y ∧ y ≤ 7) (hbad : decide (nI 0 ≤ z ∧ z ≤ nI 7) = false) (sz : Nat) : MetT l y_R_rules w_R_rules { frames := 8, cells := 1, slots := 6, locals := 180 } (tw_P [.ref (ad 0), .int (nI x), .int (nI y), .int z] D (wR ad ca P S G) (tR ca) sz) (tqw "java/lang/IndexOutOfBoundsException" D (wR ad ca P S G)) 1 6 (va_A (wR ad ca P S G) sz) := by
  refine MetT.ofW (cc := b_R_rules) (maxL := 4) (ret := none) (by decide) rfl ?_
  intro p e s m args below meth c s₁ B hml hv
  obtain ⟨rfl, hsz, hN, hX, hP, hK, hD0⟩ := hv
  have hx := B.exec
  have hb := B.bytes
  have hts := atoms_spec (ws := w_R_rules) B.pre
  have htb : ∀ w ∈ TBG, w.before [.ref (ad 0), .int (nI x), .int (nI y), .int z].toArray s = true := fun w h => hts w (List.mem_cons_of_mem _ h)
  have hown : s.vm.findClass R_R = some m.cls := findClass_of_methodNamed B.named
  have hlocks := B.notSynchronized
  subst hsz
  have hD := hD0.self (sz := s.heap.size)
  have hPs := hP
  generalize hAe : va_A (wR ad ca P S G) s.heap.size = A at hD ⊢
  have hA : ∀ q : Nat, s.heap.size ≤ q → A q := fun q h => by rw [← hAe]; exact Or.inr h
  have hS : va_S A s.heap s.heap [] := va_S.rf
  have hl := lv_entry ([.ref (ad 0), .int (nI x), .int (nI y), .int z]) (n := 4) (Nat.le_of_ble_eq_true rfl)
  rw [lg_entry_eq]
  generalize (lg_sl ([.ref (ad 0), .int (nI x), .int (nI y), .int z]) ++ List.replicate (4 - (lg_sl ([.ref (ad 0), .int (nI x), .int (nI y), .int z])).length) Slot.unset).toArray = ls at hl ⊢
  have hl : lv_has ls 4 [(0, .ref (ad 0)), (1, .int (nI x)), (2, .int (nI y)), (3, .int z)] := hl
  refine nr_start hP hS (fun H locs hP hS => ?_)
  obtain ⟨h00, h01, h02, h03, h04, h05, hp1, hp2, hp3, hp4, hp5, hp6⟩ := id hP0
  obtain ⟨g00, g01, g02, g03, g04, g05, g06, hs1, hs2, hs3, hs4, hs5, hs6, hs7⟩ := id hS0
  obtain ⟨k00, k01, hg1, hg2⟩ := id hG0
  refine lv_iload_n hx hb d_R_rules_0 rfl (lv_at hl 1 rfl) ?_
  refine nr_iconst hx hb 0 d_R_rules_1 (by decide) ?_
  refine nr_bipush hx hb 24 d_R_rules_2 (by decide) ?_
  refine nr_callv (wr := ([0, 1, 2, 3, 4, 5, 6, 7, 8, 9, 10, 11, 12, 13, 14, 15, 16, 17] : List Nat).filterMap (fun i => (wR ad ca P S G : va_W)[i]?)) (va_runS (As := [.int (nI x), .int (nI 0), .int (nI 24)]) (rest := []) ⟨hx, hb, hml, hown, hts⟩ (r_R_refuseOutside l D x 0 24 (by omega) (by omega) (by omega) H.size) ⟨callB_of 3 hts (gTB q_R_refuseOutside) rfl rfl rfl (htb _ q1) (htb _ q244) hd_R_refuseOutside ⟨Nat.le_of_ble_eq_true rfl, Nat.le_of_ble_eq_true rfl⟩, (htb _ q245)⟩ ⟨rw_blind, rw_pre hN (hP.sub (ws' := []) [] rfl) (hK.sub (tys' := []) [] rfl) (hD.sub (ws' := []) [] (by decide) rfl)⟩ rfl rfl hl.1 rfl (lv_room (Nat.le_of_ble_eq_true rfl)) d_R_rules_4 ⟨Nat.le_of_ble_eq_true rfl, Nat.le_of_ble_eq_true rfl⟩) hP hD hS hA [] [0, 1, 2, 3, 4, 5, 6, 7, 8, 9, 10, 11, 12, 13, 14, 15, 16, 17] rfl rfl (by decide) (by decide) (fun u_1 H locs hu_1 hP hD hS => ?_)
  replace hP := hP.sub (ws' := wR ad ca P S G) [0, 1, 2, 3, 4, 5, 6, 7, 8, 9, 10, 11, 12, 13, 14, 15, 16, 17] rfl
  replace hD := hD.sub (ws' := wR ad ca P S G) [0, 1, 2, 3, 4, 5, 6, 7, 8, 9, 10, 11, 12, 13, 14, 15, 16, 17] (by decide) rfl
  refine lv_iload_n hx hb d_R_rules_7 rfl (lv_at hl 2 rfl) ?_
  refine nr_iconst hx hb 0 d_R_rules_8 (by decide) ?_
  refine nr_bipush hx hb 7 d_R_rules_9 (by decide) ?_
  refine nr_callv (wr := ([0, 1, 2, 3, 4, 5, 6, 7, 8, 9, 10, 11, 12, 13, 14, 15, 16, 17] : List Nat).filterMap (fun i => (wR ad ca P S G : va_W)[i]?)) (va_runS (As := [.int (nI y), .int (nI 0), .int (nI 7)]) (rest := []) ⟨hx, hb, hml, hown, hts⟩ (r_R_refuseOutside l D y 0 7 (by omega) (by omega) (by omega) H.size) ⟨callB_of 3 hts (gTB q_R_refuseOutside) rfl rfl rfl (htb _ q1) (htb _ q244) hd_R_refuseOutside ⟨Nat.le_of_ble_eq_true rfl, Nat.le_of_ble_eq_true rfl⟩, (htb _ q245)⟩ ⟨rw_blind, rw_pre hN (hP.sub (ws' := []) [] rfl) (hK.sub (tys' := []) [] rfl) (hD.sub (ws' := []) [] (by decide) rfl)⟩ rfl rfl hl.1 rfl (lv_room (Nat.le_of_ble_eq_true rfl)) d_R_rules_11 ⟨Nat.le_of_ble_eq_true rfl, Nat.le_of_ble_eq_true rfl⟩) hP hD hS hA [] [0, 1, 2, 3, 4, 5, 6, 7, 8, 9, 10, 11, 12, 13, 14, 15, 16, 17] rfl rfl (by decide) (by decide) (fun u_2 H locs hu_2 hP hD hS => ?_)
  replace hP := hP.sub (ws' := wR ad ca P S G) [0, 1, 2, 3, 4, 5, 6, 7, 8, 9, 10, 11, 12, 13, 14, 15, 16, 17] rfl
  replace hD := hD.sub (ws' := wR ad ca P S G) [0, 1, 2, 3, 4, 5, 6, 7, 8, 9, 10, 11, 12, 13, 14, 15, 16, 17] (by decide) rfl
  refine lv_iload_n hx hb d_R_rules_14 rfl (lv_at hl 3 rfl) ?_
  refine nr_iconst hx hb 0 d_R_rules_15 (by decide) ?_
  refine nr_bipush hx hb 7 d_R_rules_16 (by decide) ?_
  intro T hT X
  exact nr_out (nr_runST (As := [.int z, .int (nI 0), .int (nI 7)]) (rest := []) ⟨hx, hb, hml, hown, hts⟩ (t_R_refuseOutside l htr z (nI 0) (nI 7) (in_bad hbad)) ⟨callB_of 3 hts (gTB q_R_refuseOutside) rfl rfl rfl (htb _ q1) (htb _ q244) hd_R_refuseOutside ⟨Nat.le_of_ble_eq_true rfl, Nat.le_of_ble_eq_true rfl⟩, (htb _ q245)⟩ ⟨tx_blind, fun U hU hW => ⟨rfl, hN.warm hW, tx_keep hX hPs (by rw [hAe]; exact hS) U hU hW⟩⟩ rfl rfl hl.1 rfl (lv_room (Nat.le_of_ble_eq_true rfl)) d_R_rules_18 ⟨Nat.le_of_ble_eq_true rfl, Nat.le_of_ble_eq_true rfl⟩) (no_handlers X B.named (hts _ List.mem_cons_self) _) hS.2.2 (fun _ h => h.elim) hlocks (fun v st t U h0 hw hq hU hW => tqw_at hP h0 hS.1 hw hq hU) T hT X
set_option maxHeartbeats 4000000 in
set_option maxRecDepth 100000 in
theorem t_R_bar_1a (l : Launch) (htr : l.stackTraces = false) (D : va_G) (ad : Nat → Nat) (ca : Nat → ClassId) (P S G : Nat → Nat → Nat) (hP0 : okP P) (hS0 : okS S) (hG0 : okG G) (b : Nat) (p1 d sf : Int32) (h_b : b ≤ 1) (hbad : inR p1 (P 0 0) = false) (sz : Nat) : MetT l y_R_bar w_R_bar { frames := 8, cells := 1, slots := 6, locals := 180 } (tw_P [.ref (ad 0), .int p1, .int d, .int sf, .int (nI b)] D (wR ad ca P S G) (tR ca) sz) (tqw "java/lang/IllegalArgumentException" D (wR ad ca P S G)) 1 6 (va_A (wR ad ca P S G) sz) := by
  refine MetT.ofW (cc := b_R_bar) (maxL := 5) (ret := none) (by decide) rfl ?_
  intro p e s m args below meth c s₁ B hml hv
  obtain ⟨rfl, hsz, hN, hX, hP, hK, hD0⟩ := hv
  have hx := B.exec
  have hb := B.bytes
  have hts := atoms_spec (ws := w_R_bar) B.pre
  have htb : ∀ w ∈ TBG, w.before [.ref (ad 0), .int p1, .int d, .int sf, .int (nI b)].toArray s = true := fun w h => hts w (List.mem_cons_of_mem _ h)
  have hown : s.vm.findClass R_R = some m.cls := findClass_of_methodNamed B.named
  have hlocks := B.notSynchronized
  subst hsz
  have hD := hD0.self (sz := s.heap.size)
  have hPs := hP
  generalize hAe : va_A (wR ad ca P S G) s.heap.size = A at hD ⊢
  have hA : ∀ q : Nat, s.heap.size ≤ q → A q := fun q h => by rw [← hAe]; exact Or.inr h
  have hS : va_S A s.heap s.heap [] := va_S.rf
  have hl := lv_entry ([.ref (ad 0), .int p1, .int d, .int sf, .int (nI b)]) (n := 5) (Nat.le_of_ble_eq_true rfl)
  rw [lg_entry_eq]
  generalize (lg_sl ([.ref (ad 0), .int p1, .int d, .int sf, .int (nI b)]) ++ List.replicate (5 - (lg_sl ([.ref (ad 0), .int p1, .int d, .int sf, .int (nI b)])).length) Slot.unset).toArray = ls at hl ⊢
  have hl : lv_has ls 5 [(0, .ref (ad 0)), (1, .int p1), (2, .int d), (3, .int sf), (4, .int (nI b))] := hl
  refine nr_start hP hS (fun H locs hP hS => ?_)
  obtain ⟨h00, h01, h02, h03, h04, h05, hp1, hp2, hp3, hp4, hp5, hp6⟩ := id hP0
  obtain ⟨g00, g01, g02, g03, g04, g05, g06, hs1, hs2, hs3, hs4, hs5, hs6, hs7⟩ := id hS0
  obtain ⟨k00, k01, hg1, hg2⟩ := id hG0
  refine lv_aload_n hx hb d_R_bar_0 rfl (lv_at hl 0 rfl) ?_
  refine lv_iload_n hx hb d_R_bar_1 rfl (lv_at hl 1 rfl) ?_
  intro T hT X
  exact nr_out (nr_runVT (As := [.int p1]) (rest := []) ⟨hx, hb, hml, hown, hts⟩ (t_R_refuseUnknownPerson l htr D ad ca P S G hP0 hS0 hG0 p1 hbad H.size) ⟨callB_of 1 hts (gTB q_R_refuseUnknownPerson) rfl rfl rfl (htb _ q1) (htb _ q409) hd_R_refuseUnknownPerson ⟨Nat.le_of_ble_eq_true rfl, Nat.le_of_ble_eq_true rfl⟩, (htb _ q411), (htb _ sel_R_refuseUnknownPerson)⟩ ⟨tw_blind, va_recv (hK.sub (tys' := []) [] rfl) hP (ci := 2) (q0 := 15) rfl rfl, fun U hU hW => ⟨rfl, by rw [hU], hN.warm hW, tx_keep hX hPs (by rw [hAe]; exact hS) U hU hW, by rw [hU]; exact hP, va_K.moved hW.alike hK, hD.weaken (fun _ _ _ _ => trivial)⟩⟩ rfl rfl hl.1 rfl (lv_room (Nat.le_of_ble_eq_true rfl)) d_R_bar_2 ⟨Nat.le_of_ble_eq_true rfl, Nat.le_of_ble_eq_true rfl⟩) (no_handlers X B.named (hts _ List.mem_cons_self) _) hS.2.2 (va_free (wc := (wR ad ca P S G)) hD hS hA [0, 1, 2, 3, 4, 5, 6, 7, 8, 9, 10, 11, 12, 13, 14, 15, 16, 17] rfl) hlocks (fun v st t U h0 hw hq hU hW => tqw_up h0 hS.1 hw hq hU) T hT X
set_option maxHeartbeats 4000000 in
set_option maxRecDepth 100000 in
theorem t_R_bar_1b (l : Launch) (htr : l.stackTraces = false) (D : va_G) (ad : Nat → Nat) (ca : Nat → ClassId) (P S G : Nat → Nat → Nat) (hP0 : okP P) (hS0 : okS S) (hG0 : okG G) (p1 b : Nat) (d sf : Int32) (h_p1 : p1 < P 0 0) (h_b : b ≤ 1) (hbad : inR d (P 0 1) = false) (sz : Nat) : MetT l y_R_bar w_R_bar { frames := 8, cells := 1, slots := 6, locals := 180 } (tw_P [.ref (ad 0), .int (nI p1), .int d, .int sf, .int (nI b)] D (wR ad ca P S G) (tR ca) sz) (tqw "java/lang/IllegalArgumentException" D (wR ad ca P S G)) 1 6 (va_A (wR ad ca P S G) sz) := by
  refine MetT.ofW (cc := b_R_bar) (maxL := 5) (ret := none) (by decide) rfl ?_
  intro p e s m args below meth c s₁ B hml hv
  obtain ⟨rfl, hsz, hN, hX, hP, hK, hD0⟩ := hv
  have hx := B.exec
  have hb := B.bytes
  have hts := atoms_spec (ws := w_R_bar) B.pre
  have htb : ∀ w ∈ TBG, w.before [.ref (ad 0), .int (nI p1), .int d, .int sf, .int (nI b)].toArray s = true := fun w h => hts w (List.mem_cons_of_mem _ h)
  have hown : s.vm.findClass R_R = some m.cls := findClass_of_methodNamed B.named
  have hlocks := B.notSynchronized
  subst hsz
  have hD := hD0.self (sz := s.heap.size)
  have hPs := hP
  generalize hAe : va_A (wR ad ca P S G) s.heap.size = A at hD ⊢
  have hA : ∀ q : Nat, s.heap.size ≤ q → A q := fun q h => by rw [← hAe]; exact Or.inr h
  have hS : va_S A s.heap s.heap [] := va_S.rf
  have hl := lv_entry ([.ref (ad 0), .int (nI p1), .int d, .int sf, .int (nI b)]) (n := 5) (Nat.le_of_ble_eq_true rfl)
  rw [lg_entry_eq]
  generalize (lg_sl ([.ref (ad 0), .int (nI p1), .int d, .int sf, .int (nI b)]) ++ List.replicate (5 - (lg_sl ([.ref (ad 0), .int (nI p1), .int d, .int sf, .int (nI b)])).length) Slot.unset).toArray = ls at hl ⊢
  have hl : lv_has ls 5 [(0, .ref (ad 0)), (1, .int (nI p1)), (2, .int d), (3, .int sf), (4, .int (nI b))] := hl
  refine nr_start hP hS (fun H locs hP hS => ?_)
  obtain ⟨h00, h01, h02, h03, h04, h05, hp1, hp2, hp3, hp4, hp5, hp6⟩ := id hP0
  obtain ⟨g00, g01, g02, g03, g04, g05, g06, hs1, hs2, hs3, hs4, hs5, hs6, hs7⟩ := id hS0
  obtain ⟨k00, k01, hg1, hg2⟩ := id hG0
  refine lv_aload_n hx hb d_R_bar_0 rfl (lv_at hl 0 rfl) ?_
  refine lv_iload_n hx hb d_R_bar_1 rfl (lv_at hl 1 rfl) ?_
  refine nr_callv (wr := ([] : va_W)) (va_runV (As := [.int (nI p1)]) (rest := []) ⟨hx, hb, hml, hown, hts⟩ (r_R_refuseUnknownPerson l D ad ca P S G hP0 hS0 hG0 p1 (by omega) H.size) ⟨callB_of 1 hts (gTB q_R_refuseUnknownPerson) rfl rfl rfl (htb _ q1) (htb _ q409) hd_R_refuseUnknownPerson ⟨Nat.le_of_ble_eq_true rfl, Nat.le_of_ble_eq_true rfl⟩, (htb _ q411), (htb _ sel_R_refuseUnknownPerson)⟩ ⟨rw_blind, va_recv (hK.sub (tys' := []) [] rfl) hP (ci := 2) (q0 := 15) rfl rfl, rw_pre hN (hP.sub (ws' := (wR ad ca P S G)) [0, 1, 2, 3, 4, 5, 6, 7, 8, 9, 10, 11, 12, 13, 14, 15, 16, 17] rfl) (hK.sub (tys' := (tR ca)) [0, 1, 2, 3, 4, 5, 6, 7, 8, 9, 10, 11, 12, 13, 14] rfl) (hD.sub (ws' := (wR ad ca P S G)) [0, 1, 2, 3, 4, 5, 6, 7, 8, 9, 10, 11, 12, 13, 14, 15, 16, 17] (by decide) rfl)⟩ rfl rfl hl.1 rfl (lv_room (Nat.le_of_ble_eq_true rfl)) d_R_bar_2 ⟨Nat.le_of_ble_eq_true rfl, Nat.le_of_ble_eq_true rfl⟩) hP hD hS hA [0, 1, 2, 3, 4, 5, 6, 7, 8, 9, 10, 11, 12, 13, 14, 15, 16, 17] [] rfl rfl (by decide) (by decide) (fun u_1 H locs hu_1 hP hD hS => ?_)
  replace hP := hP.sub (ws' := wR ad ca P S G) [0, 1, 2, 3, 4, 5, 6, 7, 8, 9, 10, 11, 12, 13, 14, 15, 16, 17] rfl
  replace hD := hD.sub (ws' := wR ad ca P S G) [0, 1, 2, 3, 4, 5, 6, 7, 8, 9, 10, 11, 12, 13, 14, 15, 16, 17] (by decide) rfl
  refine lv_aload_n hx hb d_R_bar_5 rfl (lv_at hl 0 rfl) ?_
  refine lv_iload_n hx hb d_R_bar_6 rfl (lv_at hl 2 rfl) ?_
  intro T hT X
  exact nr_out (nr_runVT (As := [.int d]) (rest := []) ⟨hx, hb, hml, hown, hts⟩ (t_R_refuseUnknownDay l htr D ad ca P S G hP0 hS0 hG0 d hbad H.size) ⟨callB_of 1 hts (gTB q_R_refuseUnknownDay) rfl rfl rfl (htb _ q1) (htb _ q364) hd_R_refuseUnknownDay ⟨Nat.le_of_ble_eq_true rfl, Nat.le_of_ble_eq_true rfl⟩, (htb _ q366), (htb _ sel_R_refuseUnknownDay)⟩ ⟨tw_blind, va_recv (hK.sub (tys' := []) [] rfl) hP (ci := 2) (q0 := 15) rfl rfl, fun U hU hW => ⟨rfl, by rw [hU], hN.warm hW, tx_keep hX hPs (by rw [hAe]; exact hS) U hU hW, by rw [hU]; exact hP, va_K.moved hW.alike hK, hD.weaken (fun _ _ _ _ => trivial)⟩⟩ rfl rfl hl.1 rfl (lv_room (Nat.le_of_ble_eq_true rfl)) d_R_bar_7 ⟨Nat.le_of_ble_eq_true rfl, Nat.le_of_ble_eq_true rfl⟩) (no_handlers X B.named (hts _ List.mem_cons_self) _) hS.2.2 (va_free (wc := (wR ad ca P S G)) hD hS hA [0, 1, 2, 3, 4, 5, 6, 7, 8, 9, 10, 11, 12, 13, 14, 15, 16, 17] rfl) hlocks (fun v st t U h0 hw hq hU hW => tqw_up h0 hS.1 hw hq hU) T hT X
set_option maxHeartbeats 4000000 in
set_option maxRecDepth 100000 in
theorem t_R_bar_1c (l : Launch) (htr : l.stackTraces = false) (D : va_G) (ad : Nat → Nat) (ca : Nat → ClassId) (P S G : Nat → Nat → Nat) (hP0 : okP P) (hS0 : okS S) (hG0 : okG G) (p1 d b : Nat) (sf : Int32) (h_p1 : p1 < P 0 0) (h_d : d < P 0 1) (h_b : b ≤ 1) (hbad : decide (nI 1 ≤ sf ∧ sf ≤ nI 3) = false) (sz : Nat) : MetT l y_R_bar w_R_bar { frames := 8, cells := 1, slots := 6, locals := 180 } (tw_P [.ref (ad 0), .int (nI p1), .int (nI d), .int sf, .int (nI b)] D (wR ad ca P S G) (tR ca) sz) (tqw "java/lang/IllegalArgumentException" D (wR ad ca P S G)) 1 6 (va_A (wR ad ca P S G) sz) := by
  refine MetT.ofW (cc := b_R_bar) (maxL := 5) (ret := none) (by decide) rfl ?_
  intro p e s m args below meth c s₁ B hml hv
  obtain ⟨rfl, hsz, hN, hX, hP, hK, hD0⟩ := hv
  have hx := B.exec
  have hb := B.bytes
  have hts := atoms_spec (ws := w_R_bar) B.pre
  have htb : ∀ w ∈ TBG, w.before [.ref (ad 0), .int (nI p1), .int (nI d), .int sf, .int (nI b)].toArray s = true := fun w h => hts w (List.mem_cons_of_mem _ h)
  have hown : s.vm.findClass R_R = some m.cls := findClass_of_methodNamed B.named
  have hlocks := B.notSynchronized
  subst hsz
  have hD := hD0.self (sz := s.heap.size)
  have hPs := hP
  generalize hAe : va_A (wR ad ca P S G) s.heap.size = A at hD ⊢
  have hA : ∀ q : Nat, s.heap.size ≤ q → A q := fun q h => by rw [← hAe]; exact Or.inr h
  have hS : va_S A s.heap s.heap [] := va_S.rf
  have hl := lv_entry ([.ref (ad 0), .int (nI p1), .int (nI d), .int sf, .int (nI b)]) (n := 5) (Nat.le_of_ble_eq_true rfl)
  rw [lg_entry_eq]
  generalize (lg_sl ([.ref (ad 0), .int (nI p1), .int (nI d), .int sf, .int (nI b)]) ++ List.replicate (5 - (lg_sl ([.ref (ad 0), .int (nI p1), .int (nI d), .int sf, .int (nI b)])).length) Slot.unset).toArray = ls at hl ⊢
  have hl : lv_has ls 5 [(0, .ref (ad 0)), (1, .int (nI p1)), (2, .int (nI d)), (3, .int sf), (4, .int (nI b))] := hl
  refine nr_start hP hS (fun H locs hP hS => ?_)
  obtain ⟨h00, h01, h02, h03, h04, h05, hp1, hp2, hp3, hp4, hp5, hp6⟩ := id hP0
  obtain ⟨g00, g01, g02, g03, g04, g05, g06, hs1, hs2, hs3, hs4, hs5, hs6, hs7⟩ := id hS0
  obtain ⟨k00, k01, hg1, hg2⟩ := id hG0
  refine lv_aload_n hx hb d_R_bar_0 rfl (lv_at hl 0 rfl) ?_
  refine lv_iload_n hx hb d_R_bar_1 rfl (lv_at hl 1 rfl) ?_
  refine nr_callv (wr := ([] : va_W)) (va_runV (As := [.int (nI p1)]) (rest := []) ⟨hx, hb, hml, hown, hts⟩ (r_R_refuseUnknownPerson l D ad ca P S G hP0 hS0 hG0 p1 (by omega) H.size) ⟨callB_of 1 hts (gTB q_R_refuseUnknownPerson) rfl rfl rfl (htb _ q1) (htb _ q409) hd_R_refuseUnknownPerson ⟨Nat.le_of_ble_eq_true rfl, Nat.le_of_ble_eq_true rfl⟩, (htb _ q411), (htb _ sel_R_refuseUnknownPerson)⟩ ⟨rw_blind, va_recv (hK.sub (tys' := []) [] rfl) hP (ci := 2) (q0 := 15) rfl rfl, rw_pre hN (hP.sub (ws' := (wR ad ca P S G)) [0, 1, 2, 3, 4, 5, 6, 7, 8, 9, 10, 11, 12, 13, 14, 15, 16, 17] rfl) (hK.sub (tys' := (tR ca)) [0, 1, 2, 3, 4, 5, 6, 7, 8, 9, 10, 11, 12, 13, 14] rfl) (hD.sub (ws' := (wR ad ca P S G)) [0, 1, 2, 3, 4, 5, 6, 7, 8, 9, 10, 11, 12, 13, 14, 15, 16, 17] (by decide) rfl)⟩ rfl rfl hl.1 rfl (lv_room (Nat.le_of_ble_eq_true rfl)) d_R_bar_2 ⟨Nat.le_of_ble_eq_true rfl, Nat.le_of_ble_eq_true rfl⟩) hP hD hS hA [0, 1, 2, 3, 4, 5, 6, 7, 8, 9, 10, 11, 12, 13, 14, 15, 16, 17] [] rfl rfl (by decide) (by decide) (fun u_1 H locs hu_1 hP hD hS => ?_)
  replace hP := hP.sub (ws' := wR ad ca P S G) [0, 1, 2, 3, 4, 5, 6, 7, 8, 9, 10, 11, 12, 13, 14, 15, 16, 17] rfl
  replace hD := hD.sub (ws' := wR ad ca P S G) [0, 1, 2, 3, 4, 5, 6, 7, 8, 9, 10, 11, 12, 13, 14, 15, 16, 17] (by decide) rfl
  refine lv_aload_n hx hb d_R_bar_5 rfl (lv_at hl 0 rfl) ?_
  refine lv_iload_n hx hb d_R_bar_6 rfl (lv_at hl 2 rfl) ?_
  refine nr_callv (wr := ([] : va_W)) (va_runV (As := [.int (nI d)]) (rest := []) ⟨hx, hb, hml, hown, hts⟩ (r_R_refuseUnknownDay l D ad ca P S G hP0 hS0 hG0 d (by omega) H.size) ⟨callB_of 1 hts (gTB q_R_refuseUnknownDay) rfl rfl rfl (htb _ q1) (htb _ q364) hd_R_refuseUnknownDay ⟨Nat.le_of_ble_eq_true rfl, Nat.le_of_ble_eq_true rfl⟩, (htb _ q366), (htb _ sel_R_refuseUnknownDay)⟩ ⟨rw_blind, va_recv (hK.sub (tys' := []) [] rfl) hP (ci := 2) (q0 := 15) rfl rfl, rw_pre hN (hP.sub (ws' := (wR ad ca P S G)) [0, 1, 2, 3, 4, 5, 6, 7, 8, 9, 10, 11, 12, 13, 14, 15, 16, 17] rfl) (hK.sub (tys' := (tR ca)) [0, 1, 2, 3, 4, 5, 6, 7, 8, 9, 10, 11, 12, 13, 14] rfl) (hD.sub (ws' := (wR ad ca P S G)) [0, 1, 2, 3, 4, 5, 6, 7, 8, 9, 10, 11, 12, 13, 14, 15, 16, 17] (by decide) rfl)⟩ rfl rfl hl.1 rfl (lv_room (Nat.le_of_ble_eq_true rfl)) d_R_bar_7 ⟨Nat.le_of_ble_eq_true rfl, Nat.le_of_ble_eq_true rfl⟩) hP hD hS hA [0, 1, 2, 3, 4, 5, 6, 7, 8, 9, 10, 11, 12, 13, 14, 15, 16, 17] [] rfl rfl (by decide) (by decide) (fun u_2 H locs hu_2 hP hD hS => ?_)
  replace hP := hP.sub (ws' := wR ad ca P S G) [0, 1, 2, 3, 4, 5, 6, 7, 8, 9, 10, 11, 12, 13, 14, 15, 16, 17] rfl
  replace hD := hD.sub (ws' := wR ad ca P S G) [0, 1, 2, 3, 4, 5, 6, 7, 8, 9, 10, 11, 12, 13, 14, 15, 16, 17] (by decide) rfl
  refine lv_iload_n hx hb d_R_bar_10 rfl (lv_at hl 3 rfl) ?_
  refine nr_iconst hx hb 1 d_R_bar_11 (by decide) ?_
  refine nr_iconst hx hb 3 d_R_bar_12 (by decide) ?_
  intro T hT X
  exact nr_out (nr_runST (As := [.int sf, .int (nI 1), .int (nI 3)]) (rest := []) ⟨hx, hb, hml, hown, hts⟩ (t_R_refuseUnknown l htr sf (nI 1) (nI 3) (in_bad hbad)) ⟨callB_of 3 hts (gTB q_R_refuseUnknown) rfl rfl rfl (htb _ q1) (htb _ q368) hd_R_refuseUnknown ⟨Nat.le_of_ble_eq_true rfl, Nat.le_of_ble_eq_true rfl⟩, (htb _ q369)⟩ ⟨tx_blind, fun U hU hW => ⟨rfl, hN.warm hW, tx_keep hX hPs (by rw [hAe]; exact hS) U hU hW⟩⟩ rfl rfl hl.1 rfl (lv_room (Nat.le_of_ble_eq_true rfl)) d_R_bar_13 ⟨Nat.le_of_ble_eq_true rfl, Nat.le_of_ble_eq_true rfl⟩) (no_handlers X B.named (hts _ List.mem_cons_self) _) hS.2.2 (fun _ h => h.elim) hlocks (fun v st t U h0 hw hq hU hW => tqw_at hP h0 hS.1 hw hq hU) T hT X
set_option maxHeartbeats 4000000 in
set_option maxRecDepth 100000 in
theorem t_R_wish_1a (l : Launch) (htr : l.stackTraces = false) (D : va_G) (ad : Nat → Nat) (ca : Nat → ClassId) (P S G : Nat → Nat → Nat) (hP0 : okP P) (hS0 : okS S) (hG0 : okG G) (b : Nat) (p1 d sf wt : Int32) (h_b : b ≤ 1) (hbad : inR p1 (P 0 0) = false) (sz : Nat) : MetT l y_R_wish w_R_wish { frames := 8, cells := 1, slots := 6, locals := 180 } (tw_P [.ref (ad 0), .int p1, .int d, .int sf, .int (nI b), .int wt] D (wR ad ca P S G) (tR ca) sz) (tqw "java/lang/IllegalArgumentException" D (wR ad ca P S G)) 1 6 (va_A (wR ad ca P S G) sz) := by
  refine MetT.ofW (cc := b_R_wish) (maxL := 6) (ret := (some .int)) (by decide) rfl ?_
  intro p e s m args below meth c s₁ B hml hv
  obtain ⟨rfl, hsz, hN, hX, hP, hK, hD0⟩ := hv
  have hx := B.exec
  have hb := B.bytes
  have hts := atoms_spec (ws := w_R_wish) B.pre
  have htb : ∀ w ∈ TBG, w.before [.ref (ad 0), .int p1, .int d, .int sf, .int (nI b), .int wt].toArray s = true := fun w h => hts w (List.mem_cons_of_mem _ h)
  have hown : s.vm.findClass R_R = some m.cls := findClass_of_methodNamed B.named
  have hlocks := B.notSynchronized
  subst hsz
  have hD := hD0.self (sz := s.heap.size)
  have hPs := hP
  generalize hAe : va_A (wR ad ca P S G) s.heap.size = A at hD ⊢
  have hA : ∀ q : Nat, s.heap.size ≤ q → A q := fun q h => by rw [← hAe]; exact Or.inr h
  have hS : va_S A s.heap s.heap [] := va_S.rf
  have hl := lv_entry ([.ref (ad 0), .int p1, .int d, .int sf, .int (nI b), .int wt]) (n := 6) (Nat.le_of_ble_eq_true rfl)
  rw [lg_entry_eq]
  generalize (lg_sl ([.ref (ad 0), .int p1, .int d, .int sf, .int (nI b), .int wt]) ++ List.replicate (6 - (lg_sl ([.ref (ad 0), .int p1, .int d, .int sf, .int (nI b), .int wt])).length) Slot.unset).toArray = ls at hl ⊢
  have hl : lv_has ls 6 [(0, .ref (ad 0)), (1, .int p1), (2, .int d), (3, .int sf), (4, .int (nI b)), (5, .int wt)] := hl
  refine nr_start hP hS (fun H locs hP hS => ?_)
  obtain ⟨h00, h01, h02, h03, h04, h05, hp1, hp2, hp3, hp4, hp5, hp6⟩ := id hP0
  obtain ⟨g00, g01, g02, g03, g04, g05, g06, hs1, hs2, hs3, hs4, hs5, hs6, hs7⟩ := id hS0
  obtain ⟨k00, k01, hg1, hg2⟩ := id hG0
  refine lv_aload_n hx hb d_R_wish_0 rfl (lv_at hl 0 rfl) ?_
  refine lv_iload_n hx hb d_R_wish_1 rfl (lv_at hl 1 rfl) ?_
  intro T hT X
  exact nr_out (nr_runVT (As := [.int p1]) (rest := []) ⟨hx, hb, hml, hown, hts⟩ (t_R_refuseUnknownPerson l htr D ad ca P S G hP0 hS0 hG0 p1 hbad H.size) ⟨callB_of 1 hts (gTB q_R_refuseUnknownPerson) rfl rfl rfl (htb _ q1) (htb _ q409) hd_R_refuseUnknownPerson ⟨Nat.le_of_ble_eq_true rfl, Nat.le_of_ble_eq_true rfl⟩, (htb _ q411), (htb _ sel_R_refuseUnknownPerson)⟩ ⟨tw_blind, va_recv (hK.sub (tys' := []) [] rfl) hP (ci := 2) (q0 := 15) rfl rfl, fun U hU hW => ⟨rfl, by rw [hU], hN.warm hW, tx_keep hX hPs (by rw [hAe]; exact hS) U hU hW, by rw [hU]; exact hP, va_K.moved hW.alike hK, hD.weaken (fun _ _ _ _ => trivial)⟩⟩ rfl rfl hl.1 rfl (lv_room (Nat.le_of_ble_eq_true rfl)) d_R_wish_2 ⟨Nat.le_of_ble_eq_true rfl, Nat.le_of_ble_eq_true rfl⟩) (no_handlers X B.named (hts _ List.mem_cons_self) _) hS.2.2 (va_free (wc := (wR ad ca P S G)) hD hS hA [0, 1, 2, 3, 4, 5, 6, 7, 8, 9, 10, 11, 12, 13, 14, 15, 16, 17] rfl) hlocks (fun v st t U h0 hw hq hU hW => tqw_up h0 hS.1 hw hq hU) T hT X
set_option maxHeartbeats 4000000 in
set_option maxRecDepth 100000 in
theorem t_R_wish_1b (l : Launch) (htr : l.stackTraces = false) (D : va_G) (ad : Nat → Nat) (ca : Nat → ClassId) (P S G : Nat → Nat → Nat) (hP0 : okP P) (hS0 : okS S) (hG0 : okG G) (p1 b : Nat) (d sf wt : Int32) (h_p1 : p1 < P 0 0) (h_b : b ≤ 1) (hbad : inR d (P 0 1) = false) (sz : Nat) : MetT l y_R_wish w_R_wish { frames := 8, cells := 1, slots := 6, locals := 180 } (tw_P [.ref (ad 0), .int (nI p1), .int d, .int sf, .int (nI b), .int wt] D (wR ad ca P S G) (tR ca) sz) (tqw "java/lang/IllegalArgumentException" D (wR ad ca P S G)) 1 6 (va_A (wR ad ca P S G) sz) := by
  refine MetT.ofW (cc := b_R_wish) (maxL := 6) (ret := (some .int)) (by decide) rfl ?_
  intro p e s m args below meth c s₁ B hml hv
  obtain ⟨rfl, hsz, hN, hX, hP, hK, hD0⟩ := hv
  have hx := B.exec
  have hb := B.bytes
  have hts := atoms_spec (ws := w_R_wish) B.pre
  have htb : ∀ w ∈ TBG, w.before [.ref (ad 0), .int (nI p1), .int d, .int sf, .int (nI b), .int wt].toArray s = true := fun w h => hts w (List.mem_cons_of_mem _ h)
  have hown : s.vm.findClass R_R = some m.cls := findClass_of_methodNamed B.named
  have hlocks := B.notSynchronized
  subst hsz
  have hD := hD0.self (sz := s.heap.size)
  have hPs := hP
  generalize hAe : va_A (wR ad ca P S G) s.heap.size = A at hD ⊢
  have hA : ∀ q : Nat, s.heap.size ≤ q → A q := fun q h => by rw [← hAe]; exact Or.inr h
  have hS : va_S A s.heap s.heap [] := va_S.rf
  have hl := lv_entry ([.ref (ad 0), .int (nI p1), .int d, .int sf, .int (nI b), .int wt]) (n := 6) (Nat.le_of_ble_eq_true rfl)
  rw [lg_entry_eq]
  generalize (lg_sl ([.ref (ad 0), .int (nI p1), .int d, .int sf, .int (nI b), .int wt]) ++ List.replicate (6 - (lg_sl ([.ref (ad 0), .int (nI p1), .int d, .int sf, .int (nI b), .int wt])).length) Slot.unset).toArray = ls at hl ⊢
  have hl : lv_has ls 6 [(0, .ref (ad 0)), (1, .int (nI p1)), (2, .int d), (3, .int sf), (4, .int (nI b)), (5, .int wt)] := hl
  refine nr_start hP hS (fun H locs hP hS => ?_)
  obtain ⟨h00, h01, h02, h03, h04, h05, hp1, hp2, hp3, hp4, hp5, hp6⟩ := id hP0
  obtain ⟨g00, g01, g02, g03, g04, g05, g06, hs1, hs2, hs3, hs4, hs5, hs6, hs7⟩ := id hS0
  obtain ⟨k00, k01, hg1, hg2⟩ := id hG0
  refine lv_aload_n hx hb d_R_wish_0 rfl (lv_at hl 0 rfl) ?_
  refine lv_iload_n hx hb d_R_wish_1 rfl (lv_at hl 1 rfl) ?_
  refine nr_callv (wr := ([] : va_W)) (va_runV (As := [.int (nI p1)]) (rest := []) ⟨hx, hb, hml, hown, hts⟩ (r_R_refuseUnknownPerson l D ad ca P S G hP0 hS0 hG0 p1 (by omega) H.size) ⟨callB_of 1 hts (gTB q_R_refuseUnknownPerson) rfl rfl rfl (htb _ q1) (htb _ q409) hd_R_refuseUnknownPerson ⟨Nat.le_of_ble_eq_true rfl, Nat.le_of_ble_eq_true rfl⟩, (htb _ q411), (htb _ sel_R_refuseUnknownPerson)⟩ ⟨rw_blind, va_recv (hK.sub (tys' := []) [] rfl) hP (ci := 2) (q0 := 15) rfl rfl, rw_pre hN (hP.sub (ws' := (wR ad ca P S G)) [0, 1, 2, 3, 4, 5, 6, 7, 8, 9, 10, 11, 12, 13, 14, 15, 16, 17] rfl) (hK.sub (tys' := (tR ca)) [0, 1, 2, 3, 4, 5, 6, 7, 8, 9, 10, 11, 12, 13, 14] rfl) (hD.sub (ws' := (wR ad ca P S G)) [0, 1, 2, 3, 4, 5, 6, 7, 8, 9, 10, 11, 12, 13, 14, 15, 16, 17] (by decide) rfl)⟩ rfl rfl hl.1 rfl (lv_room (Nat.le_of_ble_eq_true rfl)) d_R_wish_2 ⟨Nat.le_of_ble_eq_true rfl, Nat.le_of_ble_eq_true rfl⟩) hP hD hS hA [0, 1, 2, 3, 4, 5, 6, 7, 8, 9, 10, 11, 12, 13, 14, 15, 16, 17] [] rfl rfl (by decide) (by decide) (fun u_1 H locs hu_1 hP hD hS => ?_)
  replace hP := hP.sub (ws' := wR ad ca P S G) [0, 1, 2, 3, 4, 5, 6, 7, 8, 9, 10, 11, 12, 13, 14, 15, 16, 17] rfl
  replace hD := hD.sub (ws' := wR ad ca P S G) [0, 1, 2, 3, 4, 5, 6, 7, 8, 9, 10, 11, 12, 13, 14, 15, 16, 17] (by decide) rfl
  refine lv_aload_n hx hb d_R_wish_5 rfl (lv_at hl 0 rfl) ?_
  refine lv_iload_n hx hb d_R_wish_6 rfl (lv_at hl 2 rfl) ?_
  intro T hT X
  exact nr_out (nr_runVT (As := [.int d]) (rest := []) ⟨hx, hb, hml, hown, hts⟩ (t_R_refuseUnknownDay l htr D ad ca P S G hP0 hS0 hG0 d hbad H.size) ⟨callB_of 1 hts (gTB q_R_refuseUnknownDay) rfl rfl rfl (htb _ q1) (htb _ q364) hd_R_refuseUnknownDay ⟨Nat.le_of_ble_eq_true rfl, Nat.le_of_ble_eq_true rfl⟩, (htb _ q366), (htb _ sel_R_refuseUnknownDay)⟩ ⟨tw_blind, va_recv (hK.sub (tys' := []) [] rfl) hP (ci := 2) (q0 := 15) rfl rfl, fun U hU hW => ⟨rfl, by rw [hU], hN.warm hW, tx_keep hX hPs (by rw [hAe]; exact hS) U hU hW, by rw [hU]; exact hP, va_K.moved hW.alike hK, hD.weaken (fun _ _ _ _ => trivial)⟩⟩ rfl rfl hl.1 rfl (lv_room (Nat.le_of_ble_eq_true rfl)) d_R_wish_7 ⟨Nat.le_of_ble_eq_true rfl, Nat.le_of_ble_eq_true rfl⟩) (no_handlers X B.named (hts _ List.mem_cons_self) _) hS.2.2 (va_free (wc := (wR ad ca P S G)) hD hS hA [0, 1, 2, 3, 4, 5, 6, 7, 8, 9, 10, 11, 12, 13, 14, 15, 16, 17] rfl) hlocks (fun v st t U h0 hw hq hU hW => tqw_up h0 hS.1 hw hq hU) T hT X
set_option maxHeartbeats 4000000 in
set_option maxRecDepth 100000 in
theorem t_R_wish_1c (l : Launch) (htr : l.stackTraces = false) (D : va_G) (ad : Nat → Nat) (ca : Nat → ClassId) (P S G : Nat → Nat → Nat) (hP0 : okP P) (hS0 : okS S) (hG0 : okG G) (p1 d b : Nat) (sf wt : Int32) (h_p1 : p1 < P 0 0) (h_d : d < P 0 1) (h_b : b ≤ 1) (hbad : decide (nI 0 ≤ sf ∧ sf ≤ nI 3) = false) (sz : Nat) : MetT l y_R_wish w_R_wish { frames := 8, cells := 1, slots := 6, locals := 180 } (tw_P [.ref (ad 0), .int (nI p1), .int (nI d), .int sf, .int (nI b), .int wt] D (wR ad ca P S G) (tR ca) sz) (tqw "java/lang/IllegalArgumentException" D (wR ad ca P S G)) 1 6 (va_A (wR ad ca P S G) sz) := by
  refine MetT.ofW (cc := b_R_wish) (maxL := 6) (ret := (some .int)) (by decide) rfl ?_
  intro p e s m args below meth c s₁ B hml hv
  obtain ⟨rfl, hsz, hN, hX, hP, hK, hD0⟩ := hv
  have hx := B.exec
  have hb := B.bytes
  have hts := atoms_spec (ws := w_R_wish) B.pre
  have htb : ∀ w ∈ TBG, w.before [.ref (ad 0), .int (nI p1), .int (nI d), .int sf, .int (nI b), .int wt].toArray s = true := fun w h => hts w (List.mem_cons_of_mem _ h)
  have hown : s.vm.findClass R_R = some m.cls := findClass_of_methodNamed B.named
  have hlocks := B.notSynchronized
  subst hsz
  have hD := hD0.self (sz := s.heap.size)
  have hPs := hP
  generalize hAe : va_A (wR ad ca P S G) s.heap.size = A at hD ⊢
  have hA : ∀ q : Nat, s.heap.size ≤ q → A q := fun q h => by rw [← hAe]; exact Or.inr h
  have hS : va_S A s.heap s.heap [] := va_S.rf
  have hl := lv_entry ([.ref (ad 0), .int (nI p1), .int (nI d), .int sf, .int (nI b), .int wt]) (n := 6) (Nat.le_of_ble_eq_true rfl)
  rw [lg_entry_eq]
  generalize (lg_sl ([.ref (ad 0), .int (nI p1), .int (nI d), .int sf, .int (nI b), .int wt]) ++ List.replicate (6 - (lg_sl ([.ref (ad 0), .int (nI p1), .int (nI d), .int sf, .int (nI b), .int wt])).length) Slot.unset).toArray = ls at hl ⊢
  have hl : lv_has ls 6 [(0, .ref (ad 0)), (1, .int (nI p1)), (2, .int (nI d)), (3, .int sf), (4, .int (nI b)), (5, .int wt)] := hl
  refine nr_start hP hS (fun H locs hP hS => ?_)
  obtain ⟨h00, h01, h02, h03, h04, h05, hp1, hp2, hp3, hp4, hp5, hp6⟩ := id hP0
  obtain ⟨g00, g01, g02, g03, g04, g05, g06, hs1, hs2, hs3, hs4, hs5, hs6, hs7⟩ := id hS0
  obtain ⟨k00, k01, hg1, hg2⟩ := id hG0
  refine lv_aload_n hx hb d_R_wish_0 rfl (lv_at hl 0 rfl) ?_
  refine lv_iload_n hx hb d_R_wish_1 rfl (lv_at hl 1 rfl) ?_
  refine nr_callv (wr := ([] : va_W)) (va_runV (As := [.int (nI p1)]) (rest := []) ⟨hx, hb, hml, hown, hts⟩ (r_R_refuseUnknownPerson l D ad ca P S G hP0 hS0 hG0 p1 (by omega) H.size) ⟨callB_of 1 hts (gTB q_R_refuseUnknownPerson) rfl rfl rfl (htb _ q1) (htb _ q409) hd_R_refuseUnknownPerson ⟨Nat.le_of_ble_eq_true rfl, Nat.le_of_ble_eq_true rfl⟩, (htb _ q411), (htb _ sel_R_refuseUnknownPerson)⟩ ⟨rw_blind, va_recv (hK.sub (tys' := []) [] rfl) hP (ci := 2) (q0 := 15) rfl rfl, rw_pre hN (hP.sub (ws' := (wR ad ca P S G)) [0, 1, 2, 3, 4, 5, 6, 7, 8, 9, 10, 11, 12, 13, 14, 15, 16, 17] rfl) (hK.sub (tys' := (tR ca)) [0, 1, 2, 3, 4, 5, 6, 7, 8, 9, 10, 11, 12, 13, 14] rfl) (hD.sub (ws' := (wR ad ca P S G)) [0, 1, 2, 3, 4, 5, 6, 7, 8, 9, 10, 11, 12, 13, 14, 15, 16, 17] (by decide) rfl)⟩ rfl rfl hl.1 rfl (lv_room (Nat.le_of_ble_eq_true rfl)) d_R_wish_2 ⟨Nat.le_of_ble_eq_true rfl, Nat.le_of_ble_eq_true rfl⟩) hP hD hS hA [0, 1, 2, 3, 4, 5, 6, 7, 8, 9, 10, 11, 12, 13, 14, 15, 16, 17] [] rfl rfl (by decide) (by decide) (fun u_1 H locs hu_1 hP hD hS => ?_)
  replace hP := hP.sub (ws' := wR ad ca P S G) [0, 1, 2, 3, 4, 5, 6, 7, 8, 9, 10, 11, 12, 13, 14, 15, 16, 17] rfl
  replace hD := hD.sub (ws' := wR ad ca P S G) [0, 1, 2, 3, 4, 5, 6, 7, 8, 9, 10, 11, 12, 13, 14, 15, 16, 17] (by decide) rfl
  refine lv_aload_n hx hb d_R_wish_5 rfl (lv_at hl 0 rfl) ?_
  refine lv_iload_n hx hb d_R_wish_6 rfl (lv_at hl 2 rfl) ?_
  refine nr_callv (wr := ([] : va_W)) (va_runV (As := [.int (nI d)]) (rest := []) ⟨hx, hb, hml, hown, hts⟩ (r_R_refuseUnknownDay l D ad ca P S G hP0 hS0 hG0 d (by omega) H.size) ⟨callB_of 1 hts (gTB q_R_refuseUnknownDay) rfl rfl rfl (htb _ q1) (htb _ q364) hd_R_refuseUnknownDay ⟨Nat.le_of_ble_eq_true rfl, Nat.le_of_ble_eq_true rfl⟩, (htb _ q366), (htb _ sel_R_refuseUnknownDay)⟩ ⟨rw_blind, va_recv (hK.sub (tys' := []) [] rfl) hP (ci := 2) (q0 := 15) rfl rfl, rw_pre hN (hP.sub (ws' := (wR ad ca P S G)) [0, 1, 2, 3, 4, 5, 6, 7, 8, 9, 10, 11, 12, 13, 14, 15, 16, 17] rfl) (hK.sub (tys' := (tR ca)) [0, 1, 2, 3, 4, 5, 6, 7, 8, 9, 10, 11, 12, 13, 14] rfl) (hD.sub (ws' := (wR ad ca P S G)) [0, 1, 2, 3, 4, 5, 6, 7, 8, 9, 10, 11, 12, 13, 14, 15, 16, 17] (by decide) rfl)⟩ rfl rfl hl.1 rfl (lv_room (Nat.le_of_ble_eq_true rfl)) d_R_wish_7 ⟨Nat.le_of_ble_eq_true rfl, Nat.le_of_ble_eq_true rfl⟩) hP hD hS hA [0, 1, 2, 3, 4, 5, 6, 7, 8, 9, 10, 11, 12, 13, 14, 15, 16, 17] [] rfl rfl (by decide) (by decide) (fun u_2 H locs hu_2 hP hD hS => ?_)
  replace hP := hP.sub (ws' := wR ad ca P S G) [0, 1, 2, 3, 4, 5, 6, 7, 8, 9, 10, 11, 12, 13, 14, 15, 16, 17] rfl
  replace hD := hD.sub (ws' := wR ad ca P S G) [0, 1, 2, 3, 4, 5, 6, 7, 8, 9, 10, 11, 12, 13, 14, 15, 16, 17] (by decide) rfl
  refine lv_iload_n hx hb d_R_wish_10 rfl (lv_at hl 3 rfl) ?_
  refine nr_iconst hx hb 0 d_R_wish_11 (by decide) ?_
  refine nr_iconst hx hb 3 d_R_wish_12 (by decide) ?_
  intro T hT X
  exact nr_out (nr_runST (As := [.int sf, .int (nI 0), .int (nI 3)]) (rest := []) ⟨hx, hb, hml, hown, hts⟩ (t_R_refuseUnknown l htr sf (nI 0) (nI 3) (in_bad hbad)) ⟨callB_of 3 hts (gTB q_R_refuseUnknown) rfl rfl rfl (htb _ q1) (htb _ q368) hd_R_refuseUnknown ⟨Nat.le_of_ble_eq_true rfl, Nat.le_of_ble_eq_true rfl⟩, (htb _ q369)⟩ ⟨tx_blind, fun U hU hW => ⟨rfl, hN.warm hW, tx_keep hX hPs (by rw [hAe]; exact hS) U hU hW⟩⟩ rfl rfl hl.1 rfl (lv_room (Nat.le_of_ble_eq_true rfl)) d_R_wish_13 ⟨Nat.le_of_ble_eq_true rfl, Nat.le_of_ble_eq_true rfl⟩) (no_handlers X B.named (hts _ List.mem_cons_self) _) hS.2.2 (fun _ h => h.elim) hlocks (fun v st t U h0 hw hq hU hW => tqw_at hP h0 hS.1 hw hq hU) T hT X
set_option maxHeartbeats 4000000 in
set_option maxRecDepth 100000 in
theorem t_R_wish_2 (l : Launch) (htr : l.stackTraces = false) (D : va_G) (ad : Nat → Nat) (ca : Nat → ClassId) (P S G : Nat → Nat → Nat) (hP0 : okP P) (hS0 : okS S) (hG0 : okG G) (p1 d sf b : Nat) (wt : Int32) (h_p1 : p1 < P 0 0) (h_d : d < P 0 1) (h_sf : 0 ≤ sf ∧ sf ≤ 3) (h_b : b ≤ 1) (hbad : decide (nI 1 ≤ wt ∧ wt ≤ nI 100) = false) (sz : Nat) : MetT l y_R_wish w_R_wish { frames := 8, cells := 1, slots := 6, locals := 180 } (tw_P [.ref (ad 0), .int (nI p1), .int (nI d), .int (nI sf), .int (nI b), .int wt] D (wR ad ca P S G) (tR ca) sz) (tqw "java/lang/IndexOutOfBoundsException" D (wR ad ca P S G)) 1 6 (va_A (wR ad ca P S G) sz) := by
  refine MetT.ofW (cc := b_R_wish) (maxL := 6) (ret := (some .int)) (by decide) rfl ?_
  intro p e s m args below meth c s₁ B hml hv
  obtain ⟨rfl, hsz, hN, hX, hP, hK, hD0⟩ := hv
  have hx := B.exec
  have hb := B.bytes
  have hts := atoms_spec (ws := w_R_wish) B.pre
  have htb : ∀ w ∈ TBG, w.before [.ref (ad 0), .int (nI p1), .int (nI d), .int (nI sf), .int (nI b), .int wt].toArray s = true := fun w h => hts w (List.mem_cons_of_mem _ h)
  have hown : s.vm.findClass R_R = some m.cls := findClass_of_methodNamed B.named
  have hlocks := B.notSynchronized
  subst hsz
  have hD := hD0.self (sz := s.heap.size)
  have hPs := hP
  generalize hAe : va_A (wR ad ca P S G) s.heap.size = A at hD ⊢
  have hA : ∀ q : Nat, s.heap.size ≤ q → A q := fun q h => by rw [← hAe]; exact Or.inr h
  have hS : va_S A s.heap s.heap [] := va_S.rf
  have hl := lv_entry ([.ref (ad 0), .int (nI p1), .int (nI d), .int (nI sf), .int (nI b), .int wt]) (n := 6) (Nat.le_of_ble_eq_true rfl)
  rw [lg_entry_eq]
  generalize (lg_sl ([.ref (ad 0), .int (nI p1), .int (nI d), .int (nI sf), .int (nI b), .int wt]) ++ List.replicate (6 - (lg_sl ([.ref (ad 0), .int (nI p1), .int (nI d), .int (nI sf), .int (nI b), .int wt])).length) Slot.unset).toArray = ls at hl ⊢
  have hl : lv_has ls 6 [(0, .ref (ad 0)), (1, .int (nI p1)), (2, .int (nI d)), (3, .int (nI sf)), (4, .int (nI b)), (5, .int wt)] := hl
  refine nr_start hP hS (fun H locs hP hS => ?_)
  obtain ⟨h00, h01, h02, h03, h04, h05, hp1, hp2, hp3, hp4, hp5, hp6⟩ := id hP0
  obtain ⟨g00, g01, g02, g03, g04, g05, g06, hs1, hs2, hs3, hs4, hs5, hs6, hs7⟩ := id hS0
  obtain ⟨k00, k01, hg1, hg2⟩ := id hG0
  refine lv_aload_n hx hb d_R_wish_0 rfl (lv_at hl 0 rfl) ?_
  refine lv_iload_n hx hb d_R_wish_1 rfl (lv_at hl 1 rfl) ?_
  refine nr_callv (wr := ([] : va_W)) (va_runV (As := [.int (nI p1)]) (rest := []) ⟨hx, hb, hml, hown, hts⟩ (r_R_refuseUnknownPerson l D ad ca P S G hP0 hS0 hG0 p1 (by omega) H.size) ⟨callB_of 1 hts (gTB q_R_refuseUnknownPerson) rfl rfl rfl (htb _ q1) (htb _ q409) hd_R_refuseUnknownPerson ⟨Nat.le_of_ble_eq_true rfl, Nat.le_of_ble_eq_true rfl⟩, (htb _ q411), (htb _ sel_R_refuseUnknownPerson)⟩ ⟨rw_blind, va_recv (hK.sub (tys' := []) [] rfl) hP (ci := 2) (q0 := 15) rfl rfl, rw_pre hN (hP.sub (ws' := (wR ad ca P S G)) [0, 1, 2, 3, 4, 5, 6, 7, 8, 9, 10, 11, 12, 13, 14, 15, 16, 17] rfl) (hK.sub (tys' := (tR ca)) [0, 1, 2, 3, 4, 5, 6, 7, 8, 9, 10, 11, 12, 13, 14] rfl) (hD.sub (ws' := (wR ad ca P S G)) [0, 1, 2, 3, 4, 5, 6, 7, 8, 9, 10, 11, 12, 13, 14, 15, 16, 17] (by decide) rfl)⟩ rfl rfl hl.1 rfl (lv_room (Nat.le_of_ble_eq_true rfl)) d_R_wish_2 ⟨Nat.le_of_ble_eq_true rfl, Nat.le_of_ble_eq_true rfl⟩) hP hD hS hA [0, 1, 2, 3, 4, 5, 6, 7, 8, 9, 10, 11, 12, 13, 14, 15, 16, 17] [] rfl rfl (by decide) (by decide) (fun u_1 H locs hu_1 hP hD hS => ?_)
  replace hP := hP.sub (ws' := wR ad ca P S G) [0, 1, 2, 3, 4, 5, 6, 7, 8, 9, 10, 11, 12, 13, 14, 15, 16, 17] rfl
  replace hD := hD.sub (ws' := wR ad ca P S G) [0, 1, 2, 3, 4, 5, 6, 7, 8, 9, 10, 11, 12, 13, 14, 15, 16, 17] (by decide) rfl
  refine lv_aload_n hx hb d_R_wish_5 rfl (lv_at hl 0 rfl) ?_
  refine lv_iload_n hx hb d_R_wish_6 rfl (lv_at hl 2 rfl) ?_
  refine nr_callv (wr := ([] : va_W)) (va_runV (As := [.int (nI d)]) (rest := []) ⟨hx, hb, hml, hown, hts⟩ (r_R_refuseUnknownDay l D ad ca P S G hP0 hS0 hG0 d (by omega) H.size) ⟨callB_of 1 hts (gTB q_R_refuseUnknownDay) rfl rfl rfl (htb _ q1) (htb _ q364) hd_R_refuseUnknownDay ⟨Nat.le_of_ble_eq_true rfl, Nat.le_of_ble_eq_true rfl⟩, (htb _ q366), (htb _ sel_R_refuseUnknownDay)⟩ ⟨rw_blind, va_recv (hK.sub (tys' := []) [] rfl) hP (ci := 2) (q0 := 15) rfl rfl, rw_pre hN (hP.sub (ws' := (wR ad ca P S G)) [0, 1, 2, 3, 4, 5, 6, 7, 8, 9, 10, 11, 12, 13, 14, 15, 16, 17] rfl) (hK.sub (tys' := (tR ca)) [0, 1, 2, 3, 4, 5, 6, 7, 8, 9, 10, 11, 12, 13, 14] rfl) (hD.sub (ws' := (wR ad ca P S G)) [0, 1, 2, 3, 4, 5, 6, 7, 8, 9, 10, 11, 12, 13, 14, 15, 16, 17] (by decide) rfl)⟩ rfl rfl hl.1 rfl (lv_room (Nat.le_of_ble_eq_true rfl)) d_R_wish_7 ⟨Nat.le_of_ble_eq_true rfl, Nat.le_of_ble_eq_true rfl⟩) hP hD hS hA [0, 1, 2, 3, 4, 5, 6, 7, 8, 9, 10, 11, 12, 13, 14, 15, 16, 17] [] rfl rfl (by decide) (by decide) (fun u_2 H locs hu_2 hP hD hS => ?_)
  replace hP := hP.sub (ws' := wR ad ca P S G) [0, 1, 2, 3, 4, 5, 6, 7, 8, 9, 10, 11, 12, 13, 14, 15, 16, 17] rfl
  replace hD := hD.sub (ws' := wR ad ca P S G) [0, 1, 2, 3, 4, 5, 6, 7, 8, 9, 10, 11, 12, 13, 14, 15, 16, 17] (by decide) rfl
  refine lv_iload_n hx hb d_R_wish_10 rfl (lv_at hl 3 rfl) ?_
  refine nr_iconst hx hb 0 d_R_wish_11 (by decide) ?_
  refine nr_iconst hx hb 3 d_R_wish_12 (by decide) ?_
  refine nr_callv (wr := ([0, 1, 2, 3, 4, 5, 6, 7, 8, 9, 10, 11, 12, 13, 14, 15, 16, 17] : List Nat).filterMap (fun i => (wR ad ca P S G : va_W)[i]?)) (va_runS (As := [.int (nI sf), .int (nI 0), .int (nI 3)]) (rest := []) ⟨hx, hb, hml, hown, hts⟩ (r_R_refuseUnknown l D sf 0 3 (by omega) (by omega) (by omega) H.size) ⟨callB_of 3 hts (gTB q_R_refuseUnknown) rfl rfl rfl (htb _ q1) (htb _ q368) hd_R_refuseUnknown ⟨Nat.le_of_ble_eq_true rfl, Nat.le_of_ble_eq_true rfl⟩, (htb _ q369)⟩ ⟨rw_blind, rw_pre hN (hP.sub (ws' := []) [] rfl) (hK.sub (tys' := []) [] rfl) (hD.sub (ws' := []) [] (by decide) rfl)⟩ rfl rfl hl.1 rfl (lv_room (Nat.le_of_ble_eq_true rfl)) d_R_wish_13 ⟨Nat.le_of_ble_eq_true rfl, Nat.le_of_ble_eq_true rfl⟩) hP hD hS hA [] [0, 1, 2, 3, 4, 5, 6, 7, 8, 9, 10, 11, 12, 13, 14, 15, 16, 17] rfl rfl (by decide) (by decide) (fun u_3 H locs hu_3 hP hD hS => ?_)
  replace hP := hP.sub (ws' := wR ad ca P S G) [0, 1, 2, 3, 4, 5, 6, 7, 8, 9, 10, 11, 12, 13, 14, 15, 16, 17] rfl
  replace hD := hD.sub (ws' := wR ad ca P S G) [0, 1, 2, 3, 4, 5, 6, 7, 8, 9, 10, 11, 12, 13, 14, 15, 16, 17] (by decide) rfl
  refine lv_iload hx hb d_R_wish_16 (lv_at hl 5 rfl) ?_
  refine nr_iconst hx hb 1 d_R_wish_18 (by decide) ?_
  refine nr_bipush hx hb 100 d_R_wish_19 (by decide) ?_
  intro T hT X
  exact nr_out (nr_runST (As := [.int wt, .int (nI 1), .int (nI 100)]) (rest := []) ⟨hx, hb, hml, hown, hts⟩ (t_R_refuseOutside l htr wt (nI 1) (nI 100) (in_bad hbad)) ⟨callB_of 3 hts (gTB q_R_refuseOutside) rfl rfl rfl (htb _ q1) (htb _ q244) hd_R_refuseOutside ⟨Nat.le_of_ble_eq_true rfl, Nat.le_of_ble_eq_true rfl⟩, (htb _ q245)⟩ ⟨tx_blind, fun U hU hW => ⟨rfl, hN.warm hW, tx_keep hX hPs (by rw [hAe]; exact hS) U hU hW⟩⟩ rfl rfl hl.1 rfl (lv_room (Nat.le_of_ble_eq_true rfl)) d_R_wish_21 ⟨Nat.le_of_ble_eq_true rfl, Nat.le_of_ble_eq_true rfl⟩) (no_handlers X B.named (hts _ List.mem_cons_self) _) hS.2.2 (fun _ h => h.elim) hlocks (fun v st t U h0 hw hq hU hW => tqw_at hP h0 hS.1 hw hq hU) T hT X
set_option maxHeartbeats 4000000 in
set_option maxRecDepth 100000 in
theorem t_R_wish_3 (l : Launch) (htr : l.stackTraces = false) (D : va_G) (ad : Nat → Nat) (ca : Nat → ClassId) (P S G : Nat → Nat → Nat) (hP0 : okP P) (hS0 : okS S) (hG0 : okG G) (p1 d sf wt b : Nat) (h_p1 : p1 < P 0 0) (h_d : d < P 0 1) (h_sf : 0 ≤ sf ∧ sf ≤ 3) (h_wt : 1 ≤ wt ∧ wt ≤ 100) (h_b : b ≤ 1) (hfz : d < G 0 0) (sz : Nat) : MetT l y_R_wish w_R_wish { frames := 8, cells := 1, slots := 6, locals := 180 } (tw_P [.ref (ad 0), .int (nI p1), .int (nI d), .int (nI sf), .int (nI b), .int (nI wt)] D (wR ad ca P S G) (tR ca) sz) (tqw "java/lang/IllegalStateException" D (wR ad ca P S G)) 1 6 (va_A (wR ad ca P S G) sz) := by
  refine MetT.ofW (cc := b_R_wish) (maxL := 6) (ret := (some .int)) (by decide) rfl ?_
  intro p e s m args below meth c s₁ B hml hv
  obtain ⟨rfl, hsz, hN, hX, hP, hK, hD0⟩ := hv
  have hx := B.exec
  have hb := B.bytes
  have hts := atoms_spec (ws := w_R_wish) B.pre
  have htb : ∀ w ∈ TBG, w.before [.ref (ad 0), .int (nI p1), .int (nI d), .int (nI sf), .int (nI b), .int (nI wt)].toArray s = true := fun w h => hts w (List.mem_cons_of_mem _ h)
  have hown : s.vm.findClass R_R = some m.cls := findClass_of_methodNamed B.named
  have hlocks := B.notSynchronized
  subst hsz
  have hD := hD0.self (sz := s.heap.size)
  have hPs := hP
  generalize hAe : va_A (wR ad ca P S G) s.heap.size = A at hD ⊢
  have hA : ∀ q : Nat, s.heap.size ≤ q → A q := fun q h => by rw [← hAe]; exact Or.inr h
  have hS : va_S A s.heap s.heap [] := va_S.rf
  have hl := lv_entry ([.ref (ad 0), .int (nI p1), .int (nI d), .int (nI sf), .int (nI b), .int (nI wt)]) (n := 6) (Nat.le_of_ble_eq_true rfl)
  rw [lg_entry_eq]
  generalize (lg_sl ([.ref (ad 0), .int (nI p1), .int (nI d), .int (nI sf), .int (nI b), .int (nI wt)]) ++ List.replicate (6 - (lg_sl ([.ref (ad 0), .int (nI p1), .int (nI d), .int (nI sf), .int (nI b), .int (nI wt)])).length) Slot.unset).toArray = ls at hl ⊢
  have hl : lv_has ls 6 [(0, .ref (ad 0)), (1, .int (nI p1)), (2, .int (nI d)), (3, .int (nI sf)), (4, .int (nI b)), (5, .int (nI wt))] := hl
  refine nr_start hP hS (fun H locs hP hS => ?_)
  obtain ⟨h00, h01, h02, h03, h04, h05, hp1, hp2, hp3, hp4, hp5, hp6⟩ := id hP0
  obtain ⟨g00, g01, g02, g03, g04, g05, g06, hs1, hs2, hs3, hs4, hs5, hs6, hs7⟩ := id hS0
  obtain ⟨k00, k01, hg1, hg2⟩ := id hG0
  refine lv_aload_n hx hb d_R_wish_0 rfl (lv_at hl 0 rfl) ?_
  refine lv_iload_n hx hb d_R_wish_1 rfl (lv_at hl 1 rfl) ?_
  refine nr_callv (wr := ([] : va_W)) (va_runV (As := [.int (nI p1)]) (rest := []) ⟨hx, hb, hml, hown, hts⟩ (r_R_refuseUnknownPerson l D ad ca P S G hP0 hS0 hG0 p1 (by omega) H.size) ⟨callB_of 1 hts (gTB q_R_refuseUnknownPerson) rfl rfl rfl (htb _ q1) (htb _ q409) hd_R_refuseUnknownPerson ⟨Nat.le_of_ble_eq_true rfl, Nat.le_of_ble_eq_true rfl⟩, (htb _ q411), (htb _ sel_R_refuseUnknownPerson)⟩ ⟨rw_blind, va_recv (hK.sub (tys' := []) [] rfl) hP (ci := 2) (q0 := 15) rfl rfl, rw_pre hN (hP.sub (ws' := (wR ad ca P S G)) [0, 1, 2, 3, 4, 5, 6, 7, 8, 9, 10, 11, 12, 13, 14, 15, 16, 17] rfl) (hK.sub (tys' := (tR ca)) [0, 1, 2, 3, 4, 5, 6, 7, 8, 9, 10, 11, 12, 13, 14] rfl) (hD.sub (ws' := (wR ad ca P S G)) [0, 1, 2, 3, 4, 5, 6, 7, 8, 9, 10, 11, 12, 13, 14, 15, 16, 17] (by decide) rfl)⟩ rfl rfl hl.1 rfl (lv_room (Nat.le_of_ble_eq_true rfl)) d_R_wish_2 ⟨Nat.le_of_ble_eq_true rfl, Nat.le_of_ble_eq_true rfl⟩) hP hD hS hA [0, 1, 2, 3, 4, 5, 6, 7, 8, 9, 10, 11, 12, 13, 14, 15, 16, 17] [] rfl rfl (by decide) (by decide) (fun u_1 H locs hu_1 hP hD hS => ?_)
  replace hP := hP.sub (ws' := wR ad ca P S G) [0, 1, 2, 3, 4, 5, 6, 7, 8, 9, 10, 11, 12, 13, 14, 15, 16, 17] rfl
  replace hD := hD.sub (ws' := wR ad ca P S G) [0, 1, 2, 3, 4, 5, 6, 7, 8, 9, 10, 11, 12, 13, 14, 15, 16, 17] (by decide) rfl
  refine lv_aload_n hx hb d_R_wish_5 rfl (lv_at hl 0 rfl) ?_
  refine lv_iload_n hx hb d_R_wish_6 rfl (lv_at hl 2 rfl) ?_
  refine nr_callv (wr := ([] : va_W)) (va_runV (As := [.int (nI d)]) (rest := []) ⟨hx, hb, hml, hown, hts⟩ (r_R_refuseUnknownDay l D ad ca P S G hP0 hS0 hG0 d (by omega) H.size) ⟨callB_of 1 hts (gTB q_R_refuseUnknownDay) rfl rfl rfl (htb _ q1) (htb _ q364) hd_R_refuseUnknownDay ⟨Nat.le_of_ble_eq_true rfl, Nat.le_of_ble_eq_true rfl⟩, (htb _ q366), (htb _ sel_R_refuseUnknownDay)⟩ ⟨rw_blind, va_recv (hK.sub (tys' := []) [] rfl) hP (ci := 2) (q0 := 15) rfl rfl, rw_pre hN (hP.sub (ws' := (wR ad ca P S G)) [0, 1, 2, 3, 4, 5, 6, 7, 8, 9, 10, 11, 12, 13, 14, 15, 16, 17] rfl) (hK.sub (tys' := (tR ca)) [0, 1, 2, 3, 4, 5, 6, 7, 8, 9, 10, 11, 12, 13, 14] rfl) (hD.sub (ws' := (wR ad ca P S G)) [0, 1, 2, 3, 4, 5, 6, 7, 8, 9, 10, 11, 12, 13, 14, 15, 16, 17] (by decide) rfl)⟩ rfl rfl hl.1 rfl (lv_room (Nat.le_of_ble_eq_true rfl)) d_R_wish_7 ⟨Nat.le_of_ble_eq_true rfl, Nat.le_of_ble_eq_true rfl⟩) hP hD hS hA [0, 1, 2, 3, 4, 5, 6, 7, 8, 9, 10, 11, 12, 13, 14, 15, 16, 17] [] rfl rfl (by decide) (by decide) (fun u_2 H locs hu_2 hP hD hS => ?_)
  replace hP := hP.sub (ws' := wR ad ca P S G) [0, 1, 2, 3, 4, 5, 6, 7, 8, 9, 10, 11, 12, 13, 14, 15, 16, 17] rfl
  replace hD := hD.sub (ws' := wR ad ca P S G) [0, 1, 2, 3, 4, 5, 6, 7, 8, 9, 10, 11, 12, 13, 14, 15, 16, 17] (by decide) rfl
  refine lv_iload_n hx hb d_R_wish_10 rfl (lv_at hl 3 rfl) ?_
  refine nr_iconst hx hb 0 d_R_wish_11 (by decide) ?_
  refine nr_iconst hx hb 3 d_R_wish_12 (by decide) ?_
  refine nr_callv (wr := ([0, 1, 2, 3, 4, 5, 6, 7, 8, 9, 10, 11, 12, 13, 14, 15, 16, 17] : List Nat).filterMap (fun i => (wR ad ca P S G : va_W)[i]?)) (va_runS (As := [.int (nI sf), .int (nI 0), .int (nI 3)]) (rest := []) ⟨hx, hb, hml, hown, hts⟩ (r_R_refuseUnknown l D sf 0 3 (by omega) (by omega) (by omega) H.size) ⟨callB_of 3 hts (gTB q_R_refuseUnknown) rfl rfl rfl (htb _ q1) (htb _ q368) hd_R_refuseUnknown ⟨Nat.le_of_ble_eq_true rfl, Nat.le_of_ble_eq_true rfl⟩, (htb _ q369)⟩ ⟨rw_blind, rw_pre hN (hP.sub (ws' := []) [] rfl) (hK.sub (tys' := []) [] rfl) (hD.sub (ws' := []) [] (by decide) rfl)⟩ rfl rfl hl.1 rfl (lv_room (Nat.le_of_ble_eq_true rfl)) d_R_wish_13 ⟨Nat.le_of_ble_eq_true rfl, Nat.le_of_ble_eq_true rfl⟩) hP hD hS hA [] [0, 1, 2, 3, 4, 5, 6, 7, 8, 9, 10, 11, 12, 13, 14, 15, 16, 17] rfl rfl (by decide) (by decide) (fun u_3 H locs hu_3 hP hD hS => ?_)
  replace hP := hP.sub (ws' := wR ad ca P S G) [0, 1, 2, 3, 4, 5, 6, 7, 8, 9, 10, 11, 12, 13, 14, 15, 16, 17] rfl
  replace hD := hD.sub (ws' := wR ad ca P S G) [0, 1, 2, 3, 4, 5, 6, 7, 8, 9, 10, 11, 12, 13, 14, 15, 16, 17] (by decide) rfl
  refine lv_iload hx hb d_R_wish_16 (lv_at hl 5 rfl) ?_
  refine nr_iconst hx hb 1 d_R_wish_18 (by decide) ?_
  refine nr_bipush hx hb 100 d_R_wish_19 (by decide) ?_
  refine nr_callv (wr := ([0, 1, 2, 3, 4, 5, 6, 7, 8, 9, 10, 11, 12, 13, 14, 15, 16, 17] : List Nat).filterMap (fun i => (wR ad ca P S G : va_W)[i]?)) (va_runS (As := [.int (nI wt), .int (nI 1), .int (nI 100)]) (rest := []) ⟨hx, hb, hml, hown, hts⟩ (r_R_refuseOutside l D wt 1 100 (by omega) (by omega) (by omega) H.size) ⟨callB_of 3 hts (gTB q_R_refuseOutside) rfl rfl rfl (htb _ q1) (htb _ q244) hd_R_refuseOutside ⟨Nat.le_of_ble_eq_true rfl, Nat.le_of_ble_eq_true rfl⟩, (htb _ q245)⟩ ⟨rw_blind, rw_pre hN (hP.sub (ws' := []) [] rfl) (hK.sub (tys' := []) [] rfl) (hD.sub (ws' := []) [] (by decide) rfl)⟩ rfl rfl hl.1 rfl (lv_room (Nat.le_of_ble_eq_true rfl)) d_R_wish_21 ⟨Nat.le_of_ble_eq_true rfl, Nat.le_of_ble_eq_true rfl⟩) hP hD hS hA [] [0, 1, 2, 3, 4, 5, 6, 7, 8, 9, 10, 11, 12, 13, 14, 15, 16, 17] rfl rfl (by decide) (by decide) (fun u_4 H locs hu_4 hP hD hS => ?_)
  replace hP := hP.sub (ws' := wR ad ca P S G) [0, 1, 2, 3, 4, 5, 6, 7, 8, 9, 10, 11, 12, 13, 14, 15, 16, 17] rfl
  replace hD := hD.sub (ws' := wR ad ca P S G) [0, 1, 2, 3, 4, 5, 6, 7, 8, 9, 10, 11, 12, 13, 14, 15, 16, 17] (by decide) rfl
  refine lv_aload_n hx hb d_R_wish_24 rfl (lv_at hl 0 rfl) ?_
  refine lv_iload_n hx hb d_R_wish_25 rfl (lv_at hl 2 rfl) ?_
  intro T hT X
  exact nr_out (nr_runVT (As := [.int (nI d)]) (rest := []) ⟨hx, hb, hml, hown, hts⟩ (t_R_refuseFrozen l htr D ad ca P S G hP0 hS0 hG0 d (by omega) hfz H.size) ⟨callB_of 1 hts (gTB q_R_refuseFrozen) rfl rfl rfl (htb _ q1) (htb _ q422) hd_R_refuseFrozen ⟨Nat.le_of_ble_eq_true rfl, Nat.le_of_ble_eq_true rfl⟩, (htb _ q424), (htb _ sel_R_refuseFrozen)⟩ ⟨tw_blind, va_recv (hK.sub (tys' := []) [] rfl) hP (ci := 2) (q0 := 15) rfl rfl, fun U hU hW => ⟨rfl, by rw [hU], hN.warm hW, tx_keep hX hPs (by rw [hAe]; exact hS) U hU hW, by rw [hU]; exact hP, va_K.moved hW.alike hK, hD.weaken (fun _ _ _ _ => trivial)⟩⟩ rfl rfl hl.1 rfl (lv_room (Nat.le_of_ble_eq_true rfl)) d_R_wish_26 ⟨Nat.le_of_ble_eq_true rfl, Nat.le_of_ble_eq_true rfl⟩) (no_handlers X B.named (hts _ List.mem_cons_self) _) hS.2.2 (va_free (wc := (wR ad ca P S G)) hD hS hA [0, 1, 2, 3, 4, 5, 6, 7, 8, 9, 10, 11, 12, 13, 14, 15, 16, 17] rfl) hlocks (fun v st t U h0 hw hq hU hW => tqw_up h0 hS.1 hw hq hU) T hT X
set_option maxHeartbeats 4000000 in
set_option maxRecDepth 100000 in
theorem t_R_wish_4 (l : Launch) (htr : l.stackTraces = false) (D : va_G) (ad : Nat → Nat) (ca : Nat → ClassId) (P S G : Nat → Nat → Nat) (hP0 : okP P) (hS0 : okS S) (hG0 : okG G) (p1 d sf wt b : Nat) (h_p1 : p1 < P 0 0) (h_d : d < P 0 1) (h_sf : 0 ≤ sf ∧ sf ≤ 3) (h_wt : 1 ≤ wt ∧ wt ≤ 100) (h_b : b ≤ 1) (hfz : G 0 0 ≤ d) (hfull : P 0 5 = 20) (sz : Nat) : MetT l y_R_wish w_R_wish { frames := 8, cells := 1, slots := 6, locals := 180 } (tw_P [.ref (ad 0), .int (nI p1), .int (nI d), .int (nI sf), .int (nI b), .int (nI wt)] D (wR ad ca P S G) (tR ca) sz) (tqw "java/lang/UnsupportedOperationException" D (wR ad ca P S G)) 1 6 (va_A (wR ad ca P S G) sz) := by
  refine MetT.ofW (cc := b_R_wish) (maxL := 6) (ret := (some .int)) (by decide) rfl ?_
  intro p e s m args below meth c s₁ B hml hv
  obtain ⟨rfl, hsz, hN, hX, hP, hK, hD0⟩ := hv
  have hx := B.exec
  have hb := B.bytes
  have hts := atoms_spec (ws := w_R_wish) B.pre
  have htb : ∀ w ∈ TBG, w.before [.ref (ad 0), .int (nI p1), .int (nI d), .int (nI sf), .int (nI b), .int (nI wt)].toArray s = true := fun w h => hts w (List.mem_cons_of_mem _ h)
  have hown : s.vm.findClass R_R = some m.cls := findClass_of_methodNamed B.named
  have hlocks := B.notSynchronized
  subst hsz
  have hD := hD0.self (sz := s.heap.size)
  have hPs := hP
  generalize hAe : va_A (wR ad ca P S G) s.heap.size = A at hD ⊢
  have hA : ∀ q : Nat, s.heap.size ≤ q → A q := fun q h => by rw [← hAe]; exact Or.inr h
  have hS : va_S A s.heap s.heap [] := va_S.rf
  have hl := lv_entry ([.ref (ad 0), .int (nI p1), .int (nI d), .int (nI sf), .int (nI b), .int (nI wt)]) (n := 6) (Nat.le_of_ble_eq_true rfl)
  rw [lg_entry_eq]
  generalize (lg_sl ([.ref (ad 0), .int (nI p1), .int (nI d), .int (nI sf), .int (nI b), .int (nI wt)]) ++ List.replicate (6 - (lg_sl ([.ref (ad 0), .int (nI p1), .int (nI d), .int (nI sf), .int (nI b), .int (nI wt)])).length) Slot.unset).toArray = ls at hl ⊢
  have hl : lv_has ls 6 [(0, .ref (ad 0)), (1, .int (nI p1)), (2, .int (nI d)), (3, .int (nI sf)), (4, .int (nI b)), (5, .int (nI wt))] := hl
  refine nr_start hP hS (fun H locs hP hS => ?_)
  obtain ⟨h00, h01, h02, h03, h04, h05, hp1, hp2, hp3, hp4, hp5, hp6⟩ := id hP0
  obtain ⟨g00, g01, g02, g03, g04, g05, g06, hs1, hs2, hs3, hs4, hs5, hs6, hs7⟩ := id hS0
  obtain ⟨k00, k01, hg1, hg2⟩ := id hG0
  refine lv_aload_n hx hb d_R_wish_0 rfl (lv_at hl 0 rfl) ?_
  refine lv_iload_n hx hb d_R_wish_1 rfl (lv_at hl 1 rfl) ?_
  refine nr_callv (wr := ([] : va_W)) (va_runV (As := [.int (nI p1)]) (rest := []) ⟨hx, hb, hml, hown, hts⟩ (r_R_refuseUnknownPerson l D ad ca P S G hP0 hS0 hG0 p1 (by omega) H.size) ⟨callB_of 1 hts (gTB q_R_refuseUnknownPerson) rfl rfl rfl (htb _ q1) (htb _ q409) hd_R_refuseUnknownPerson ⟨Nat.le_of_ble_eq_true rfl, Nat.le_of_ble_eq_true rfl⟩, (htb _ q411), (htb _ sel_R_refuseUnknownPerson)⟩ ⟨rw_blind, va_recv (hK.sub (tys' := []) [] rfl) hP (ci := 2) (q0 := 15) rfl rfl, rw_pre hN (hP.sub (ws' := (wR ad ca P S G)) [0, 1, 2, 3, 4, 5, 6, 7, 8, 9, 10, 11, 12, 13, 14, 15, 16, 17] rfl) (hK.sub (tys' := (tR ca)) [0, 1, 2, 3, 4, 5, 6, 7, 8, 9, 10, 11, 12, 13, 14] rfl) (hD.sub (ws' := (wR ad ca P S G)) [0, 1, 2, 3, 4, 5, 6, 7, 8, 9, 10, 11, 12, 13, 14, 15, 16, 17] (by decide) rfl)⟩ rfl rfl hl.1 rfl (lv_room (Nat.le_of_ble_eq_true rfl)) d_R_wish_2 ⟨Nat.le_of_ble_eq_true rfl, Nat.le_of_ble_eq_true rfl⟩) hP hD hS hA [0, 1, 2, 3, 4, 5, 6, 7, 8, 9, 10, 11, 12, 13, 14, 15, 16, 17] [] rfl rfl (by decide) (by decide) (fun u_1 H locs hu_1 hP hD hS => ?_)
  replace hP := hP.sub (ws' := wR ad ca P S G) [0, 1, 2, 3, 4, 5, 6, 7, 8, 9, 10, 11, 12, 13, 14, 15, 16, 17] rfl
  replace hD := hD.sub (ws' := wR ad ca P S G) [0, 1, 2, 3, 4, 5, 6, 7, 8, 9, 10, 11, 12, 13, 14, 15, 16, 17] (by decide) rfl
  refine lv_aload_n hx hb d_R_wish_5 rfl (lv_at hl 0 rfl) ?_
  refine lv_iload_n hx hb d_R_wish_6 rfl (lv_at hl 2 rfl) ?_
  refine nr_callv (wr := ([] : va_W)) (va_runV (As := [.int (nI d)]) (rest := []) ⟨hx, hb, hml, hown, hts⟩ (r_R_refuseUnknownDay l D ad ca P S G hP0 hS0 hG0 d (by omega) H.size) ⟨callB_of 1 hts (gTB q_R_refuseUnknownDay) rfl rfl rfl (htb _ q1) (htb _ q364) hd_R_refuseUnknownDay ⟨Nat.le_of_ble_eq_true rfl, Nat.le_of_ble_eq_true rfl⟩, (htb _ q366), (htb _ sel_R_refuseUnknownDay)⟩ ⟨rw_blind, va_recv (hK.sub (tys' := []) [] rfl) hP (ci := 2) (q0 := 15) rfl rfl, rw_pre hN (hP.sub (ws' := (wR ad ca P S G)) [0, 1, 2, 3, 4, 5, 6, 7, 8, 9, 10, 11, 12, 13, 14, 15, 16, 17] rfl) (hK.sub (tys' := (tR ca)) [0, 1, 2, 3, 4, 5, 6, 7, 8, 9, 10, 11, 12, 13, 14] rfl) (hD.sub (ws' := (wR ad ca P S G)) [0, 1, 2, 3, 4, 5, 6, 7, 8, 9, 10, 11, 12, 13, 14, 15, 16, 17] (by decide) rfl)⟩ rfl rfl hl.1 rfl (lv_room (Nat.le_of_ble_eq_true rfl)) d_R_wish_7 ⟨Nat.le_of_ble_eq_true rfl, Nat.le_of_ble_eq_true rfl⟩) hP hD hS hA [0, 1, 2, 3, 4, 5, 6, 7, 8, 9, 10, 11, 12, 13, 14, 15, 16, 17] [] rfl rfl (by decide) (by decide) (fun u_2 H locs hu_2 hP hD hS => ?_)
  replace hP := hP.sub (ws' := wR ad ca P S G) [0, 1, 2, 3, 4, 5, 6, 7, 8, 9, 10, 11, 12, 13, 14, 15, 16, 17] rfl
  replace hD := hD.sub (ws' := wR ad ca P S G) [0, 1, 2, 3, 4, 5, 6, 7, 8, 9, 10, 11, 12, 13, 14, 15, 16, 17] (by decide) rfl
  refine lv_iload_n hx hb d_R_wish_10 rfl (lv_at hl 3 rfl) ?_
  refine nr_iconst hx hb 0 d_R_wish_11 (by decide) ?_
  refine nr_iconst hx hb 3 d_R_wish_12 (by decide) ?_
  refine nr_callv (wr := ([0, 1, 2, 3, 4, 5, 6, 7, 8, 9, 10, 11, 12, 13, 14, 15, 16, 17] : List Nat).filterMap (fun i => (wR ad ca P S G : va_W)[i]?)) (va_runS (As := [.int (nI sf), .int (nI 0), .int (nI 3)]) (rest := []) ⟨hx, hb, hml, hown, hts⟩ (r_R_refuseUnknown l D sf 0 3 (by omega) (by omega) (by omega) H.size) ⟨callB_of 3 hts (gTB q_R_refuseUnknown) rfl rfl rfl (htb _ q1) (htb _ q368) hd_R_refuseUnknown ⟨Nat.le_of_ble_eq_true rfl, Nat.le_of_ble_eq_true rfl⟩, (htb _ q369)⟩ ⟨rw_blind, rw_pre hN (hP.sub (ws' := []) [] rfl) (hK.sub (tys' := []) [] rfl) (hD.sub (ws' := []) [] (by decide) rfl)⟩ rfl rfl hl.1 rfl (lv_room (Nat.le_of_ble_eq_true rfl)) d_R_wish_13 ⟨Nat.le_of_ble_eq_true rfl, Nat.le_of_ble_eq_true rfl⟩) hP hD hS hA [] [0, 1, 2, 3, 4, 5, 6, 7, 8, 9, 10, 11, 12, 13, 14, 15, 16, 17] rfl rfl (by decide) (by decide) (fun u_3 H locs hu_3 hP hD hS => ?_)
  replace hP := hP.sub (ws' := wR ad ca P S G) [0, 1, 2, 3, 4, 5, 6, 7, 8, 9, 10, 11, 12, 13, 14, 15, 16, 17] rfl
  replace hD := hD.sub (ws' := wR ad ca P S G) [0, 1, 2, 3, 4, 5, 6, 7, 8, 9, 10, 11, 12, 13, 14, 15, 16, 17] (by decide) rfl
  refine lv_iload hx hb d_R_wish_16 (lv_at hl 5 rfl) ?_
  refine nr_iconst hx hb 1 d_R_wish_18 (by decide) ?_
  refine nr_bipush hx hb 100 d_R_wish_19 (by decide) ?_
  refine nr_callv (wr := ([0, 1, 2, 3, 4, 5, 6, 7, 8, 9, 10, 11, 12, 13, 14, 15, 16, 17] : List Nat).filterMap (fun i => (wR ad ca P S G : va_W)[i]?)) (va_runS (As := [.int (nI wt), .int (nI 1), .int (nI 100)]) (rest := []) ⟨hx, hb, hml, hown, hts⟩ (r_R_refuseOutside l D wt 1 100 (by omega) (by omega) (by omega) H.size) ⟨callB_of 3 hts (gTB q_R_refuseOutside) rfl rfl rfl (htb _ q1) (htb _ q244) hd_R_refuseOutside ⟨Nat.le_of_ble_eq_true rfl, Nat.le_of_ble_eq_true rfl⟩, (htb _ q245)⟩ ⟨rw_blind, rw_pre hN (hP.sub (ws' := []) [] rfl) (hK.sub (tys' := []) [] rfl) (hD.sub (ws' := []) [] (by decide) rfl)⟩ rfl rfl hl.1 rfl (lv_room (Nat.le_of_ble_eq_true rfl)) d_R_wish_21 ⟨Nat.le_of_ble_eq_true rfl, Nat.le_of_ble_eq_true rfl⟩) hP hD hS hA [] [0, 1, 2, 3, 4, 5, 6, 7, 8, 9, 10, 11, 12, 13, 14, 15, 16, 17] rfl rfl (by decide) (by decide) (fun u_4 H locs hu_4 hP hD hS => ?_)
  replace hP := hP.sub (ws' := wR ad ca P S G) [0, 1, 2, 3, 4, 5, 6, 7, 8, 9, 10, 11, 12, 13, 14, 15, 16, 17] rfl
  replace hD := hD.sub (ws' := wR ad ca P S G) [0, 1, 2, 3, 4, 5, 6, 7, 8, 9, 10, 11, 12, 13, 14, 15, 16, 17] (by decide) rfl
  refine lv_aload_n hx hb d_R_wish_24 rfl (lv_at hl 0 rfl) ?_
  refine lv_iload_n hx hb d_R_wish_25 rfl (lv_at hl 2 rfl) ?_
  refine nr_callv (wr := ([] : va_W)) (va_runV (As := [.int (nI d)]) (rest := []) ⟨hx, hb, hml, hown, hts⟩ (r_R_refuseFrozen l D ad ca P S G hP0 hS0 hG0 d (by omega) (by omega) H.size) ⟨callB_of 1 hts (gTB q_R_refuseFrozen) rfl rfl rfl (htb _ q1) (htb _ q422) hd_R_refuseFrozen ⟨Nat.le_of_ble_eq_true rfl, Nat.le_of_ble_eq_true rfl⟩, (htb _ q424), (htb _ sel_R_refuseFrozen)⟩ ⟨rw_blind, va_recv (hK.sub (tys' := []) [] rfl) hP (ci := 2) (q0 := 15) rfl rfl, rw_pre hN (hP.sub (ws' := (wR ad ca P S G)) [0, 1, 2, 3, 4, 5, 6, 7, 8, 9, 10, 11, 12, 13, 14, 15, 16, 17] rfl) (hK.sub (tys' := (tR ca)) [0, 1, 2, 3, 4, 5, 6, 7, 8, 9, 10, 11, 12, 13, 14] rfl) (hD.sub (ws' := (wR ad ca P S G)) [0, 1, 2, 3, 4, 5, 6, 7, 8, 9, 10, 11, 12, 13, 14, 15, 16, 17] (by decide) rfl)⟩ rfl rfl hl.1 rfl (lv_room (Nat.le_of_ble_eq_true rfl)) d_R_wish_26 ⟨Nat.le_of_ble_eq_true rfl, Nat.le_of_ble_eq_true rfl⟩) hP hD hS hA [0, 1, 2, 3, 4, 5, 6, 7, 8, 9, 10, 11, 12, 13, 14, 15, 16, 17] [] rfl rfl (by decide) (by decide) (fun u_5 H locs hu_5 hP hD hS => ?_)
  replace hP := hP.sub (ws' := wR ad ca P S G) [0, 1, 2, 3, 4, 5, 6, 7, 8, 9, 10, 11, 12, 13, 14, 15, 16, 17] rfl
  replace hD := hD.sub (ws' := wR ad ca P S G) [0, 1, 2, 3, 4, 5, 6, 7, 8, 9, 10, 11, 12, 13, 14, 15, 16, 17] (by decide) rfl
  refine lv_aload_n hx hb d_R_wish_29 rfl (lv_at hl 0 rfl) ?_
  refine va_get (D := D) (ci := 2) (v := .ref (ad 1)) (C := R_R) (T := F_R) (N := 6) hx hb htb u_R hown hK hP 15 rfl rfl 0 (by decide) (htb _ q134) (fun _ h9 => h9) rfl d_R_wish_30 ?_
  refine va_getN (D := D) (ci := 0) (v := .int (nI (P 0 5))) (C := R_P) (T := F_P) (N := 12) hx hb htb u_P hown hK hP 0 rfl rfl 5 (by decide) (hN.at q40 rfl rfl) (fun _ h9 => h9) rfl d_R_wish_33 ?_
  refine nr_bipush hx hb 20 d_R_wish_36 (by decide) ?_
  intro T hT X
  exact nr_out (nr_runST (As := [.int (nI (P 0 5)), .int (nI 20)]) (rest := []) ⟨hx, hb, hml, hown, hts⟩ (t_R_refuseFull l htr (nI (P 0 5)) (nI 20) (by rw [hfull]; decide)) ⟨callB_of 2 hts (gTB q_R_refuseFull) rfl rfl rfl (htb _ q1) (htb _ q333) hd_R_refuseFull ⟨Nat.le_of_ble_eq_true rfl, Nat.le_of_ble_eq_true rfl⟩, (htb _ q334)⟩ ⟨tx_blind, fun U hU hW => ⟨rfl, hN.warm hW, tx_keep hX hPs (by rw [hAe]; exact hS) U hU hW⟩⟩ rfl rfl hl.1 rfl (lv_room (Nat.le_of_ble_eq_true rfl)) d_R_wish_38 ⟨Nat.le_of_ble_eq_true rfl, Nat.le_of_ble_eq_true rfl⟩) (no_handlers X B.named (hts _ List.mem_cons_self) _) hS.2.2 (fun _ h => h.elim) hlocks (fun v st t U h0 hw hq hU hW => tqw_at hP h0 hS.1 hw hq hU) T hT X
set_option maxHeartbeats 4000000 in
set_option maxRecDepth 100000 in
theorem t_R_set_1a (l : Launch) (htr : l.stackTraces = false) (D : va_G) (ad : Nat → Nat) (ca : Nat → ClassId) (P S G : Nat → Nat → Nat) (hP0 : okP P) (hS0 : okS S) (hG0 : okG G) (p1 d sf : Int32) (hbad : inR p1 (P 0 0) = false) (sz : Nat) : MetT l y_R_set w_R_set { frames := 8, cells := 1, slots := 6, locals := 180 } (tw_P [.ref (ad 0), .int p1, .int d, .int sf] D (wR ad ca P S G) (tR ca) sz) (tqw "java/lang/IllegalArgumentException" D (wR ad ca P S G)) 1 6 (va_A (wR ad ca P S G) sz) := by
  refine MetT.ofW (cc := b_R_set) (maxL := 4) (ret := none) (by decide) rfl ?_
  intro p e s m args below meth c s₁ B hml hv
  obtain ⟨rfl, hsz, hN, hX, hP, hK, hD0⟩ := hv
  have hx := B.exec
  have hb := B.bytes
  have hts := atoms_spec (ws := w_R_set) B.pre
  have htb : ∀ w ∈ TBG, w.before [.ref (ad 0), .int p1, .int d, .int sf].toArray s = true := fun w h => hts w (List.mem_cons_of_mem _ h)
  have hown : s.vm.findClass R_R = some m.cls := findClass_of_methodNamed B.named
  have hlocks := B.notSynchronized
  subst hsz
  have hD := hD0.self (sz := s.heap.size)
  have hPs := hP
  generalize hAe : va_A (wR ad ca P S G) s.heap.size = A at hD ⊢
  have hA : ∀ q : Nat, s.heap.size ≤ q → A q := fun q h => by rw [← hAe]; exact Or.inr h
  have hS : va_S A s.heap s.heap [] := va_S.rf
  have hl := lv_entry ([.ref (ad 0), .int p1, .int d, .int sf]) (n := 4) (Nat.le_of_ble_eq_true rfl)
  rw [lg_entry_eq]
  generalize (lg_sl ([.ref (ad 0), .int p1, .int d, .int sf]) ++ List.replicate (4 - (lg_sl ([.ref (ad 0), .int p1, .int d, .int sf])).length) Slot.unset).toArray = ls at hl ⊢
  have hl : lv_has ls 4 [(0, .ref (ad 0)), (1, .int p1), (2, .int d), (3, .int sf)] := hl
  refine nr_start hP hS (fun H locs hP hS => ?_)
  obtain ⟨h00, h01, h02, h03, h04, h05, hp1, hp2, hp3, hp4, hp5, hp6⟩ := id hP0
  obtain ⟨g00, g01, g02, g03, g04, g05, g06, hs1, hs2, hs3, hs4, hs5, hs6, hs7⟩ := id hS0
  obtain ⟨k00, k01, hg1, hg2⟩ := id hG0
  refine lv_aload_n hx hb d_R_set_0 rfl (lv_at hl 0 rfl) ?_
  refine lv_iload_n hx hb d_R_set_1 rfl (lv_at hl 1 rfl) ?_
  intro T hT X
  exact nr_out (nr_runVT (As := [.int p1]) (rest := []) ⟨hx, hb, hml, hown, hts⟩ (t_R_refuseUnknownPerson l htr D ad ca P S G hP0 hS0 hG0 p1 hbad H.size) ⟨callB_of 1 hts (gTB q_R_refuseUnknownPerson) rfl rfl rfl (htb _ q1) (htb _ q409) hd_R_refuseUnknownPerson ⟨Nat.le_of_ble_eq_true rfl, Nat.le_of_ble_eq_true rfl⟩, (htb _ q411), (htb _ sel_R_refuseUnknownPerson)⟩ ⟨tw_blind, va_recv (hK.sub (tys' := []) [] rfl) hP (ci := 2) (q0 := 15) rfl rfl, fun U hU hW => ⟨rfl, by rw [hU], hN.warm hW, tx_keep hX hPs (by rw [hAe]; exact hS) U hU hW, by rw [hU]; exact hP, va_K.moved hW.alike hK, hD.weaken (fun _ _ _ _ => trivial)⟩⟩ rfl rfl hl.1 rfl (lv_room (Nat.le_of_ble_eq_true rfl)) d_R_set_2 ⟨Nat.le_of_ble_eq_true rfl, Nat.le_of_ble_eq_true rfl⟩) (no_handlers X B.named (hts _ List.mem_cons_self) _) hS.2.2 (va_free (wc := (wR ad ca P S G)) hD hS hA [0, 1, 2, 3, 4, 5, 6, 7, 8, 9, 10, 11, 12, 13, 14, 15, 16, 17] rfl) hlocks (fun v st t U h0 hw hq hU hW => tqw_up h0 hS.1 hw hq hU) T hT X
set_option maxHeartbeats 4000000 in
set_option maxRecDepth 100000 in
theorem t_R_set_1b (l : Launch) (htr : l.stackTraces = false) (D : va_G) (ad : Nat → Nat) (ca : Nat → ClassId) (P S G : Nat → Nat → Nat) (hP0 : okP P) (hS0 : okS S) (hG0 : okG G) (p1 : Nat) (d sf : Int32) (h_p1 : p1 < P 0 0) (hbad : inR d (P 0 1) = false) (sz : Nat) : MetT l y_R_set w_R_set { frames := 8, cells := 1, slots := 6, locals := 180 } (tw_P [.ref (ad 0), .int (nI p1), .int d, .int sf] D (wR ad ca P S G) (tR ca) sz) (tqw "java/lang/IllegalArgumentException" D (wR ad ca P S G)) 1 6 (va_A (wR ad ca P S G) sz) := by
  refine MetT.ofW (cc := b_R_set) (maxL := 4) (ret := none) (by decide) rfl ?_
  intro p e s m args below meth c s₁ B hml hv
  obtain ⟨rfl, hsz, hN, hX, hP, hK, hD0⟩ := hv
  have hx := B.exec
  have hb := B.bytes
  have hts := atoms_spec (ws := w_R_set) B.pre
  have htb : ∀ w ∈ TBG, w.before [.ref (ad 0), .int (nI p1), .int d, .int sf].toArray s = true := fun w h => hts w (List.mem_cons_of_mem _ h)
  have hown : s.vm.findClass R_R = some m.cls := findClass_of_methodNamed B.named
  have hlocks := B.notSynchronized
  subst hsz
  have hD := hD0.self (sz := s.heap.size)
  have hPs := hP
  generalize hAe : va_A (wR ad ca P S G) s.heap.size = A at hD ⊢
  have hA : ∀ q : Nat, s.heap.size ≤ q → A q := fun q h => by rw [← hAe]; exact Or.inr h
  have hS : va_S A s.heap s.heap [] := va_S.rf
  have hl := lv_entry ([.ref (ad 0), .int (nI p1), .int d, .int sf]) (n := 4) (Nat.le_of_ble_eq_true rfl)
  rw [lg_entry_eq]
  generalize (lg_sl ([.ref (ad 0), .int (nI p1), .int d, .int sf]) ++ List.replicate (4 - (lg_sl ([.ref (ad 0), .int (nI p1), .int d, .int sf])).length) Slot.unset).toArray = ls at hl ⊢
  have hl : lv_has ls 4 [(0, .ref (ad 0)), (1, .int (nI p1)), (2, .int d), (3, .int sf)] := hl
  refine nr_start hP hS (fun H locs hP hS => ?_)
  obtain ⟨h00, h01, h02, h03, h04, h05, hp1, hp2, hp3, hp4, hp5, hp6⟩ := id hP0
  obtain ⟨g00, g01, g02, g03, g04, g05, g06, hs1, hs2, hs3, hs4, hs5, hs6, hs7⟩ := id hS0
  obtain ⟨k00, k01, hg1, hg2⟩ := id hG0
  refine lv_aload_n hx hb d_R_set_0 rfl (lv_at hl 0 rfl) ?_
  refine lv_iload_n hx hb d_R_set_1 rfl (lv_at hl 1 rfl) ?_
  refine nr_callv (wr := ([] : va_W)) (va_runV (As := [.int (nI p1)]) (rest := []) ⟨hx, hb, hml, hown, hts⟩ (r_R_refuseUnknownPerson l D ad ca P S G hP0 hS0 hG0 p1 (by omega) H.size) ⟨callB_of 1 hts (gTB q_R_refuseUnknownPerson) rfl rfl rfl (htb _ q1) (htb _ q409) hd_R_refuseUnknownPerson ⟨Nat.le_of_ble_eq_true rfl, Nat.le_of_ble_eq_true rfl⟩, (htb _ q411), (htb _ sel_R_refuseUnknownPerson)⟩ ⟨rw_blind, va_recv (hK.sub (tys' := []) [] rfl) hP (ci := 2) (q0 := 15) rfl rfl, rw_pre hN (hP.sub (ws' := (wR ad ca P S G)) [0, 1, 2, 3, 4, 5, 6, 7, 8, 9, 10, 11, 12, 13, 14, 15, 16, 17] rfl) (hK.sub (tys' := (tR ca)) [0, 1, 2, 3, 4, 5, 6, 7, 8, 9, 10, 11, 12, 13, 14] rfl) (hD.sub (ws' := (wR ad ca P S G)) [0, 1, 2, 3, 4, 5, 6, 7, 8, 9, 10, 11, 12, 13, 14, 15, 16, 17] (by decide) rfl)⟩ rfl rfl hl.1 rfl (lv_room (Nat.le_of_ble_eq_true rfl)) d_R_set_2 ⟨Nat.le_of_ble_eq_true rfl, Nat.le_of_ble_eq_true rfl⟩) hP hD hS hA [0, 1, 2, 3, 4, 5, 6, 7, 8, 9, 10, 11, 12, 13, 14, 15, 16, 17] [] rfl rfl (by decide) (by decide) (fun u_1 H locs hu_1 hP hD hS => ?_)
  replace hP := hP.sub (ws' := wR ad ca P S G) [0, 1, 2, 3, 4, 5, 6, 7, 8, 9, 10, 11, 12, 13, 14, 15, 16, 17] rfl
  replace hD := hD.sub (ws' := wR ad ca P S G) [0, 1, 2, 3, 4, 5, 6, 7, 8, 9, 10, 11, 12, 13, 14, 15, 16, 17] (by decide) rfl
  refine lv_aload_n hx hb d_R_set_5 rfl (lv_at hl 0 rfl) ?_
  refine lv_iload_n hx hb d_R_set_6 rfl (lv_at hl 2 rfl) ?_
  intro T hT X
  exact nr_out (nr_runVT (As := [.int d]) (rest := []) ⟨hx, hb, hml, hown, hts⟩ (t_R_refuseUnknownDay l htr D ad ca P S G hP0 hS0 hG0 d hbad H.size) ⟨callB_of 1 hts (gTB q_R_refuseUnknownDay) rfl rfl rfl (htb _ q1) (htb _ q364) hd_R_refuseUnknownDay ⟨Nat.le_of_ble_eq_true rfl, Nat.le_of_ble_eq_true rfl⟩, (htb _ q366), (htb _ sel_R_refuseUnknownDay)⟩ ⟨tw_blind, va_recv (hK.sub (tys' := []) [] rfl) hP (ci := 2) (q0 := 15) rfl rfl, fun U hU hW => ⟨rfl, by rw [hU], hN.warm hW, tx_keep hX hPs (by rw [hAe]; exact hS) U hU hW, by rw [hU]; exact hP, va_K.moved hW.alike hK, hD.weaken (fun _ _ _ _ => trivial)⟩⟩ rfl rfl hl.1 rfl (lv_room (Nat.le_of_ble_eq_true rfl)) d_R_set_7 ⟨Nat.le_of_ble_eq_true rfl, Nat.le_of_ble_eq_true rfl⟩) (no_handlers X B.named (hts _ List.mem_cons_self) _) hS.2.2 (va_free (wc := (wR ad ca P S G)) hD hS hA [0, 1, 2, 3, 4, 5, 6, 7, 8, 9, 10, 11, 12, 13, 14, 15, 16, 17] rfl) hlocks (fun v st t U h0 hw hq hU hW => tqw_up h0 hS.1 hw hq hU) T hT X
set_option maxHeartbeats 4000000 in
set_option maxRecDepth 100000 in
theorem t_R_set_1c (l : Launch) (htr : l.stackTraces = false) (D : va_G) (ad : Nat → Nat) (ca : Nat → ClassId) (P S G : Nat → Nat → Nat) (hP0 : okP P) (hS0 : okS S) (hG0 : okG G) (p1 d : Nat) (sf : Int32) (h_p1 : p1 < P 0 0) (h_d : d < P 0 1) (hbad : decide (nI 0 ≤ sf ∧ sf ≤ nI 3) = false) (sz : Nat) : MetT l y_R_set w_R_set { frames := 8, cells := 1, slots := 6, locals := 180 } (tw_P [.ref (ad 0), .int (nI p1), .int (nI d), .int sf] D (wR ad ca P S G) (tR ca) sz) (tqw "java/lang/IllegalArgumentException" D (wR ad ca P S G)) 1 6 (va_A (wR ad ca P S G) sz) := by
  refine MetT.ofW (cc := b_R_set) (maxL := 4) (ret := none) (by decide) rfl ?_
  intro p e s m args below meth c s₁ B hml hv
  obtain ⟨rfl, hsz, hN, hX, hP, hK, hD0⟩ := hv
  have hx := B.exec
  have hb := B.bytes
  have hts := atoms_spec (ws := w_R_set) B.pre
  have htb : ∀ w ∈ TBG, w.before [.ref (ad 0), .int (nI p1), .int (nI d), .int sf].toArray s = true := fun w h => hts w (List.mem_cons_of_mem _ h)
  have hown : s.vm.findClass R_R = some m.cls := findClass_of_methodNamed B.named
  have hlocks := B.notSynchronized
  subst hsz
  have hD := hD0.self (sz := s.heap.size)
  have hPs := hP
  generalize hAe : va_A (wR ad ca P S G) s.heap.size = A at hD ⊢
  have hA : ∀ q : Nat, s.heap.size ≤ q → A q := fun q h => by rw [← hAe]; exact Or.inr h
  have hS : va_S A s.heap s.heap [] := va_S.rf
  have hl := lv_entry ([.ref (ad 0), .int (nI p1), .int (nI d), .int sf]) (n := 4) (Nat.le_of_ble_eq_true rfl)
  rw [lg_entry_eq]
  generalize (lg_sl ([.ref (ad 0), .int (nI p1), .int (nI d), .int sf]) ++ List.replicate (4 - (lg_sl ([.ref (ad 0), .int (nI p1), .int (nI d), .int sf])).length) Slot.unset).toArray = ls at hl ⊢
  have hl : lv_has ls 4 [(0, .ref (ad 0)), (1, .int (nI p1)), (2, .int (nI d)), (3, .int sf)] := hl
  refine nr_start hP hS (fun H locs hP hS => ?_)
  obtain ⟨h00, h01, h02, h03, h04, h05, hp1, hp2, hp3, hp4, hp5, hp6⟩ := id hP0
  obtain ⟨g00, g01, g02, g03, g04, g05, g06, hs1, hs2, hs3, hs4, hs5, hs6, hs7⟩ := id hS0
  obtain ⟨k00, k01, hg1, hg2⟩ := id hG0
  refine lv_aload_n hx hb d_R_set_0 rfl (lv_at hl 0 rfl) ?_
  refine lv_iload_n hx hb d_R_set_1 rfl (lv_at hl 1 rfl) ?_
  refine nr_callv (wr := ([] : va_W)) (va_runV (As := [.int (nI p1)]) (rest := []) ⟨hx, hb, hml, hown, hts⟩ (r_R_refuseUnknownPerson l D ad ca P S G hP0 hS0 hG0 p1 (by omega) H.size) ⟨callB_of 1 hts (gTB q_R_refuseUnknownPerson) rfl rfl rfl (htb _ q1) (htb _ q409) hd_R_refuseUnknownPerson ⟨Nat.le_of_ble_eq_true rfl, Nat.le_of_ble_eq_true rfl⟩, (htb _ q411), (htb _ sel_R_refuseUnknownPerson)⟩ ⟨rw_blind, va_recv (hK.sub (tys' := []) [] rfl) hP (ci := 2) (q0 := 15) rfl rfl, rw_pre hN (hP.sub (ws' := (wR ad ca P S G)) [0, 1, 2, 3, 4, 5, 6, 7, 8, 9, 10, 11, 12, 13, 14, 15, 16, 17] rfl) (hK.sub (tys' := (tR ca)) [0, 1, 2, 3, 4, 5, 6, 7, 8, 9, 10, 11, 12, 13, 14] rfl) (hD.sub (ws' := (wR ad ca P S G)) [0, 1, 2, 3, 4, 5, 6, 7, 8, 9, 10, 11, 12, 13, 14, 15, 16, 17] (by decide) rfl)⟩ rfl rfl hl.1 rfl (lv_room (Nat.le_of_ble_eq_true rfl)) d_R_set_2 ⟨Nat.le_of_ble_eq_true rfl, Nat.le_of_ble_eq_true rfl⟩) hP hD hS hA [0, 1, 2, 3, 4, 5, 6, 7, 8, 9, 10, 11, 12, 13, 14, 15, 16, 17] [] rfl rfl (by decide) (by decide) (fun u_1 H locs hu_1 hP hD hS => ?_)
  replace hP := hP.sub (ws' := wR ad ca P S G) [0, 1, 2, 3, 4, 5, 6, 7, 8, 9, 10, 11, 12, 13, 14, 15, 16, 17] rfl
  replace hD := hD.sub (ws' := wR ad ca P S G) [0, 1, 2, 3, 4, 5, 6, 7, 8, 9, 10, 11, 12, 13, 14, 15, 16, 17] (by decide) rfl
  refine lv_aload_n hx hb d_R_set_5 rfl (lv_at hl 0 rfl) ?_
  refine lv_iload_n hx hb d_R_set_6 rfl (lv_at hl 2 rfl) ?_
  refine nr_callv (wr := ([] : va_W)) (va_runV (As := [.int (nI d)]) (rest := []) ⟨hx, hb, hml, hown, hts⟩ (r_R_refuseUnknownDay l D ad ca P S G hP0 hS0 hG0 d (by omega) H.size) ⟨callB_of 1 hts (gTB q_R_refuseUnknownDay) rfl rfl rfl (htb _ q1) (htb _ q364) hd_R_refuseUnknownDay ⟨Nat.le_of_ble_eq_true rfl, Nat.le_of_ble_eq_true rfl⟩, (htb _ q366), (htb _ sel_R_refuseUnknownDay)⟩ ⟨rw_blind, va_recv (hK.sub (tys' := []) [] rfl) hP (ci := 2) (q0 := 15) rfl rfl, rw_pre hN (hP.sub (ws' := (wR ad ca P S G)) [0, 1, 2, 3, 4, 5, 6, 7, 8, 9, 10, 11, 12, 13, 14, 15, 16, 17] rfl) (hK.sub (tys' := (tR ca)) [0, 1, 2, 3, 4, 5, 6, 7, 8, 9, 10, 11, 12, 13, 14] rfl) (hD.sub (ws' := (wR ad ca P S G)) [0, 1, 2, 3, 4, 5, 6, 7, 8, 9, 10, 11, 12, 13, 14, 15, 16, 17] (by decide) rfl)⟩ rfl rfl hl.1 rfl (lv_room (Nat.le_of_ble_eq_true rfl)) d_R_set_7 ⟨Nat.le_of_ble_eq_true rfl, Nat.le_of_ble_eq_true rfl⟩) hP hD hS hA [0, 1, 2, 3, 4, 5, 6, 7, 8, 9, 10, 11, 12, 13, 14, 15, 16, 17] [] rfl rfl (by decide) (by decide) (fun u_2 H locs hu_2 hP hD hS => ?_)
  replace hP := hP.sub (ws' := wR ad ca P S G) [0, 1, 2, 3, 4, 5, 6, 7, 8, 9, 10, 11, 12, 13, 14, 15, 16, 17] rfl
  replace hD := hD.sub (ws' := wR ad ca P S G) [0, 1, 2, 3, 4, 5, 6, 7, 8, 9, 10, 11, 12, 13, 14, 15, 16, 17] (by decide) rfl
  refine lv_iload_n hx hb d_R_set_10 rfl (lv_at hl 3 rfl) ?_
  refine nr_iconst hx hb 0 d_R_set_11 (by decide) ?_
  refine nr_iconst hx hb 3 d_R_set_12 (by decide) ?_
  intro T hT X
  exact nr_out (nr_runST (As := [.int sf, .int (nI 0), .int (nI 3)]) (rest := []) ⟨hx, hb, hml, hown, hts⟩ (t_R_refuseUnknown l htr sf (nI 0) (nI 3) (in_bad hbad)) ⟨callB_of 3 hts (gTB q_R_refuseUnknown) rfl rfl rfl (htb _ q1) (htb _ q368) hd_R_refuseUnknown ⟨Nat.le_of_ble_eq_true rfl, Nat.le_of_ble_eq_true rfl⟩, (htb _ q369)⟩ ⟨tx_blind, fun U hU hW => ⟨rfl, hN.warm hW, tx_keep hX hPs (by rw [hAe]; exact hS) U hU hW⟩⟩ rfl rfl hl.1 rfl (lv_room (Nat.le_of_ble_eq_true rfl)) d_R_set_13 ⟨Nat.le_of_ble_eq_true rfl, Nat.le_of_ble_eq_true rfl⟩) (no_handlers X B.named (hts _ List.mem_cons_self) _) hS.2.2 (fun _ h => h.elim) hlocks (fun v st t U h0 hw hq hU hW => tqw_at hP h0 hS.1 hw hq hU) T hT X
set_option maxHeartbeats 4000000 in
set_option maxRecDepth 100000 in
theorem t_R_set_2 (l : Launch) (htr : l.stackTraces = false) (D : va_G) (ad : Nat → Nat) (ca : Nat → ClassId) (P S G : Nat → Nat → Nat) (hP0 : okP P) (hS0 : okS S) (hG0 : okG G) (p1 d sf : Nat) (h_p1 : p1 < P 0 0) (h_d : d < P 0 1) (h_sf : 0 ≤ sf ∧ sf ≤ 3) (hfz : d < G 0 0) (sz : Nat) : MetT l y_R_set w_R_set { frames := 8, cells := 1, slots := 6, locals := 180 } (tw_P [.ref (ad 0), .int (nI p1), .int (nI d), .int (nI sf)] D (wR ad ca P S G) (tR ca) sz) (tqw "java/lang/IllegalStateException" D (wR ad ca P S G)) 1 6 (va_A (wR ad ca P S G) sz) := by
  refine MetT.ofW (cc := b_R_set) (maxL := 4) (ret := none) (by decide) rfl ?_
  intro p e s m args below meth c s₁ B hml hv
  obtain ⟨rfl, hsz, hN, hX, hP, hK, hD0⟩ := hv
  have hx := B.exec
  have hb := B.bytes
  have hts := atoms_spec (ws := w_R_set) B.pre
  have htb : ∀ w ∈ TBG, w.before [.ref (ad 0), .int (nI p1), .int (nI d), .int (nI sf)].toArray s = true := fun w h => hts w (List.mem_cons_of_mem _ h)
  have hown : s.vm.findClass R_R = some m.cls := findClass_of_methodNamed B.named
  have hlocks := B.notSynchronized
  subst hsz
  have hD := hD0.self (sz := s.heap.size)
  have hPs := hP
  generalize hAe : va_A (wR ad ca P S G) s.heap.size = A at hD ⊢
  have hA : ∀ q : Nat, s.heap.size ≤ q → A q := fun q h => by rw [← hAe]; exact Or.inr h
  have hS : va_S A s.heap s.heap [] := va_S.rf
  have hl := lv_entry ([.ref (ad 0), .int (nI p1), .int (nI d), .int (nI sf)]) (n := 4) (Nat.le_of_ble_eq_true rfl)
  rw [lg_entry_eq]
  generalize (lg_sl ([.ref (ad 0), .int (nI p1), .int (nI d), .int (nI sf)]) ++ List.replicate (4 - (lg_sl ([.ref (ad 0), .int (nI p1), .int (nI d), .int (nI sf)])).length) Slot.unset).toArray = ls at hl ⊢
  have hl : lv_has ls 4 [(0, .ref (ad 0)), (1, .int (nI p1)), (2, .int (nI d)), (3, .int (nI sf))] := hl
  refine nr_start hP hS (fun H locs hP hS => ?_)
  obtain ⟨h00, h01, h02, h03, h04, h05, hp1, hp2, hp3, hp4, hp5, hp6⟩ := id hP0
  obtain ⟨g00, g01, g02, g03, g04, g05, g06, hs1, hs2, hs3, hs4, hs5, hs6, hs7⟩ := id hS0
  obtain ⟨k00, k01, hg1, hg2⟩ := id hG0
  refine lv_aload_n hx hb d_R_set_0 rfl (lv_at hl 0 rfl) ?_
  refine lv_iload_n hx hb d_R_set_1 rfl (lv_at hl 1 rfl) ?_
  refine nr_callv (wr := ([] : va_W)) (va_runV (As := [.int (nI p1)]) (rest := []) ⟨hx, hb, hml, hown, hts⟩ (r_R_refuseUnknownPerson l D ad ca P S G hP0 hS0 hG0 p1 (by omega) H.size) ⟨callB_of 1 hts (gTB q_R_refuseUnknownPerson) rfl rfl rfl (htb _ q1) (htb _ q409) hd_R_refuseUnknownPerson ⟨Nat.le_of_ble_eq_true rfl, Nat.le_of_ble_eq_true rfl⟩, (htb _ q411), (htb _ sel_R_refuseUnknownPerson)⟩ ⟨rw_blind, va_recv (hK.sub (tys' := []) [] rfl) hP (ci := 2) (q0 := 15) rfl rfl, rw_pre hN (hP.sub (ws' := (wR ad ca P S G)) [0, 1, 2, 3, 4, 5, 6, 7, 8, 9, 10, 11, 12, 13, 14, 15, 16, 17] rfl) (hK.sub (tys' := (tR ca)) [0, 1, 2, 3, 4, 5, 6, 7, 8, 9, 10, 11, 12, 13, 14] rfl) (hD.sub (ws' := (wR ad ca P S G)) [0, 1, 2, 3, 4, 5, 6, 7, 8, 9, 10, 11, 12, 13, 14, 15, 16, 17] (by decide) rfl)⟩ rfl rfl hl.1 rfl (lv_room (Nat.le_of_ble_eq_true rfl)) d_R_set_2 ⟨Nat.le_of_ble_eq_true rfl, Nat.le_of_ble_eq_true rfl⟩) hP hD hS hA [0, 1, 2, 3, 4, 5, 6, 7, 8, 9, 10, 11, 12, 13, 14, 15, 16, 17] [] rfl rfl (by decide) (by decide) (fun u_1 H locs hu_1 hP hD hS => ?_)
  replace hP := hP.sub (ws' := wR ad ca P S G) [0, 1, 2, 3, 4, 5, 6, 7, 8, 9, 10, 11, 12, 13, 14, 15, 16, 17] rfl
  replace hD := hD.sub (ws' := wR ad ca P S G) [0, 1, 2, 3, 4, 5, 6, 7, 8, 9, 10, 11, 12, 13, 14, 15, 16, 17] (by decide) rfl
  refine lv_aload_n hx hb d_R_set_5 rfl (lv_at hl 0 rfl) ?_
  refine lv_iload_n hx hb d_R_set_6 rfl (lv_at hl 2 rfl) ?_
  refine nr_callv (wr := ([] : va_W)) (va_runV (As := [.int (nI d)]) (rest := []) ⟨hx, hb, hml, hown, hts⟩ (r_R_refuseUnknownDay l D ad ca P S G hP0 hS0 hG0 d (by omega) H.size) ⟨callB_of 1 hts (gTB q_R_refuseUnknownDay) rfl rfl rfl (htb _ q1) (htb _ q364) hd_R_refuseUnknownDay ⟨Nat.le_of_ble_eq_true rfl, Nat.le_of_ble_eq_true rfl⟩, (htb _ q366), (htb _ sel_R_refuseUnknownDay)⟩ ⟨rw_blind, va_recv (hK.sub (tys' := []) [] rfl) hP (ci := 2) (q0 := 15) rfl rfl, rw_pre hN (hP.sub (ws' := (wR ad ca P S G)) [0, 1, 2, 3, 4, 5, 6, 7, 8, 9, 10, 11, 12, 13, 14, 15, 16, 17] rfl) (hK.sub (tys' := (tR ca)) [0, 1, 2, 3, 4, 5, 6, 7, 8, 9, 10, 11, 12, 13, 14] rfl) (hD.sub (ws' := (wR ad ca P S G)) [0, 1, 2, 3, 4, 5, 6, 7, 8, 9, 10, 11, 12, 13, 14, 15, 16, 17] (by decide) rfl)⟩ rfl rfl hl.1 rfl (lv_room (Nat.le_of_ble_eq_true rfl)) d_R_set_7 ⟨Nat.le_of_ble_eq_true rfl, Nat.le_of_ble_eq_true rfl⟩) hP hD hS hA [0, 1, 2, 3, 4, 5, 6, 7, 8, 9, 10, 11, 12, 13, 14, 15, 16, 17] [] rfl rfl (by decide) (by decide) (fun u_2 H locs hu_2 hP hD hS => ?_)
  replace hP := hP.sub (ws' := wR ad ca P S G) [0, 1, 2, 3, 4, 5, 6, 7, 8, 9, 10, 11, 12, 13, 14, 15, 16, 17] rfl
  replace hD := hD.sub (ws' := wR ad ca P S G) [0, 1, 2, 3, 4, 5, 6, 7, 8, 9, 10, 11, 12, 13, 14, 15, 16, 17] (by decide) rfl
  refine lv_iload_n hx hb d_R_set_10 rfl (lv_at hl 3 rfl) ?_
  refine nr_iconst hx hb 0 d_R_set_11 (by decide) ?_
  refine nr_iconst hx hb 3 d_R_set_12 (by decide) ?_
  refine nr_callv (wr := ([0, 1, 2, 3, 4, 5, 6, 7, 8, 9, 10, 11, 12, 13, 14, 15, 16, 17] : List Nat).filterMap (fun i => (wR ad ca P S G : va_W)[i]?)) (va_runS (As := [.int (nI sf), .int (nI 0), .int (nI 3)]) (rest := []) ⟨hx, hb, hml, hown, hts⟩ (r_R_refuseUnknown l D sf 0 3 (by omega) (by omega) (by omega) H.size) ⟨callB_of 3 hts (gTB q_R_refuseUnknown) rfl rfl rfl (htb _ q1) (htb _ q368) hd_R_refuseUnknown ⟨Nat.le_of_ble_eq_true rfl, Nat.le_of_ble_eq_true rfl⟩, (htb _ q369)⟩ ⟨rw_blind, rw_pre hN (hP.sub (ws' := []) [] rfl) (hK.sub (tys' := []) [] rfl) (hD.sub (ws' := []) [] (by decide) rfl)⟩ rfl rfl hl.1 rfl (lv_room (Nat.le_of_ble_eq_true rfl)) d_R_set_13 ⟨Nat.le_of_ble_eq_true rfl, Nat.le_of_ble_eq_true rfl⟩) hP hD hS hA [] [0, 1, 2, 3, 4, 5, 6, 7, 8, 9, 10, 11, 12, 13, 14, 15, 16, 17] rfl rfl (by decide) (by decide) (fun u_3 H locs hu_3 hP hD hS => ?_)
  replace hP := hP.sub (ws' := wR ad ca P S G) [0, 1, 2, 3, 4, 5, 6, 7, 8, 9, 10, 11, 12, 13, 14, 15, 16, 17] rfl
  replace hD := hD.sub (ws' := wR ad ca P S G) [0, 1, 2, 3, 4, 5, 6, 7, 8, 9, 10, 11, 12, 13, 14, 15, 16, 17] (by decide) rfl
  refine lv_aload_n hx hb d_R_set_16 rfl (lv_at hl 0 rfl) ?_
  refine lv_iload_n hx hb d_R_set_17 rfl (lv_at hl 2 rfl) ?_
  intro T hT X
  exact nr_out (nr_runVT (As := [.int (nI d)]) (rest := []) ⟨hx, hb, hml, hown, hts⟩ (t_R_refuseFrozen l htr D ad ca P S G hP0 hS0 hG0 d (by omega) hfz H.size) ⟨callB_of 1 hts (gTB q_R_refuseFrozen) rfl rfl rfl (htb _ q1) (htb _ q422) hd_R_refuseFrozen ⟨Nat.le_of_ble_eq_true rfl, Nat.le_of_ble_eq_true rfl⟩, (htb _ q424), (htb _ sel_R_refuseFrozen)⟩ ⟨tw_blind, va_recv (hK.sub (tys' := []) [] rfl) hP (ci := 2) (q0 := 15) rfl rfl, fun U hU hW => ⟨rfl, by rw [hU], hN.warm hW, tx_keep hX hPs (by rw [hAe]; exact hS) U hU hW, by rw [hU]; exact hP, va_K.moved hW.alike hK, hD.weaken (fun _ _ _ _ => trivial)⟩⟩ rfl rfl hl.1 rfl (lv_room (Nat.le_of_ble_eq_true rfl)) d_R_set_18 ⟨Nat.le_of_ble_eq_true rfl, Nat.le_of_ble_eq_true rfl⟩) (no_handlers X B.named (hts _ List.mem_cons_self) _) hS.2.2 (va_free (wc := (wR ad ca P S G)) hD hS hA [0, 1, 2, 3, 4, 5, 6, 7, 8, 9, 10, 11, 12, 13, 14, 15, 16, 17] rfl) hlocks (fun v st t U h0 hw hq hU hW => tqw_up h0 hS.1 hw hq hU) T hT X
set_option maxHeartbeats 4000000 in
set_option maxRecDepth 100000 in
theorem t_R_shift_1a (l : Launch) (htr : l.stackTraces = false) (D : va_G) (ad : Nat → Nat) (ca : Nat → ClassId) (P S G : Nat → Nat → Nat) (hP0 : okP P) (hS0 : okS S) (hG0 : okG G) (p1 d : Int32) (hbad : inR p1 (P 0 0) = false) (sz : Nat) : MetT l y_R_shift w_R_shift { frames := 8, cells := 1, slots := 6, locals := 180 } (tw_P [.ref (ad 0), .int p1, .int d] D (wR ad ca P S G) (tR ca) sz) (tqw "java/lang/IllegalArgumentException" D (wR ad ca P S G)) 1 6 (va_A (wR ad ca P S G) sz) := by
  refine MetT.ofW (cc := b_R_shift) (maxL := 3) (ret := (some .int)) (by decide) rfl ?_
  intro p e s m args below meth c s₁ B hml hv
  obtain ⟨rfl, hsz, hN, hX, hP, hK, hD0⟩ := hv
  have hx := B.exec
  have hb := B.bytes
  have hts := atoms_spec (ws := w_R_shift) B.pre
  have htb : ∀ w ∈ TBG, w.before [.ref (ad 0), .int p1, .int d].toArray s = true := fun w h => hts w (List.mem_cons_of_mem _ h)
  have hown : s.vm.findClass R_R = some m.cls := findClass_of_methodNamed B.named
  have hlocks := B.notSynchronized
  subst hsz
  have hD := hD0.self (sz := s.heap.size)
  have hPs := hP
  generalize hAe : va_A (wR ad ca P S G) s.heap.size = A at hD ⊢
  have hA : ∀ q : Nat, s.heap.size ≤ q → A q := fun q h => by rw [← hAe]; exact Or.inr h
  have hS : va_S A s.heap s.heap [] := va_S.rf
  have hl := lv_entry ([.ref (ad 0), .int p1, .int d]) (n := 3) (Nat.le_of_ble_eq_true rfl)
  rw [lg_entry_eq]
  generalize (lg_sl ([.ref (ad 0), .int p1, .int d]) ++ List.replicate (3 - (lg_sl ([.ref (ad 0), .int p1, .int d])).length) Slot.unset).toArray = ls at hl ⊢
  have hl : lv_has ls 3 [(0, .ref (ad 0)), (1, .int p1), (2, .int d)] := hl
  refine nr_start hP hS (fun H locs hP hS => ?_)
  obtain ⟨h00, h01, h02, h03, h04, h05, hp1, hp2, hp3, hp4, hp5, hp6⟩ := id hP0
  obtain ⟨g00, g01, g02, g03, g04, g05, g06, hs1, hs2, hs3, hs4, hs5, hs6, hs7⟩ := id hS0
  obtain ⟨k00, k01, hg1, hg2⟩ := id hG0
  refine lv_aload_n hx hb d_R_shift_0 rfl (lv_at hl 0 rfl) ?_
  refine lv_iload_n hx hb d_R_shift_1 rfl (lv_at hl 1 rfl) ?_
  intro T hT X
  exact nr_out (nr_runVT (As := [.int p1]) (rest := []) ⟨hx, hb, hml, hown, hts⟩ (t_R_refuseUnknownPerson l htr D ad ca P S G hP0 hS0 hG0 p1 hbad H.size) ⟨callB_of 1 hts (gTB q_R_refuseUnknownPerson) rfl rfl rfl (htb _ q1) (htb _ q409) hd_R_refuseUnknownPerson ⟨Nat.le_of_ble_eq_true rfl, Nat.le_of_ble_eq_true rfl⟩, (htb _ q411), (htb _ sel_R_refuseUnknownPerson)⟩ ⟨tw_blind, va_recv (hK.sub (tys' := []) [] rfl) hP (ci := 2) (q0 := 15) rfl rfl, fun U hU hW => ⟨rfl, by rw [hU], hN.warm hW, tx_keep hX hPs (by rw [hAe]; exact hS) U hU hW, by rw [hU]; exact hP, va_K.moved hW.alike hK, hD.weaken (fun _ _ _ _ => trivial)⟩⟩ rfl rfl hl.1 rfl (lv_room (Nat.le_of_ble_eq_true rfl)) d_R_shift_2 ⟨Nat.le_of_ble_eq_true rfl, Nat.le_of_ble_eq_true rfl⟩) (no_handlers X B.named (hts _ List.mem_cons_self) _) hS.2.2 (va_free (wc := (wR ad ca P S G)) hD hS hA [0, 1, 2, 3, 4, 5, 6, 7, 8, 9, 10, 11, 12, 13, 14, 15, 16, 17] rfl) hlocks (fun v st t U h0 hw hq hU hW => tqw_up h0 hS.1 hw hq hU) T hT X
set_option maxHeartbeats 4000000 in
set_option maxRecDepth 100000 in
theorem t_R_shift_1b (l : Launch) (htr : l.stackTraces = false) (D : va_G) (ad : Nat → Nat) (ca : Nat → ClassId) (P S G : Nat → Nat → Nat) (hP0 : okP P) (hS0 : okS S) (hG0 : okG G) (p1 : Nat) (d : Int32) (h_p1 : p1 < P 0 0) (hbad : inR d (P 0 1) = false) (sz : Nat) : MetT l y_R_shift w_R_shift { frames := 8, cells := 1, slots := 6, locals := 180 } (tw_P [.ref (ad 0), .int (nI p1), .int d] D (wR ad ca P S G) (tR ca) sz) (tqw "java/lang/IllegalArgumentException" D (wR ad ca P S G)) 1 6 (va_A (wR ad ca P S G) sz) := by
  refine MetT.ofW (cc := b_R_shift) (maxL := 3) (ret := (some .int)) (by decide) rfl ?_
  intro p e s m args below meth c s₁ B hml hv
  obtain ⟨rfl, hsz, hN, hX, hP, hK, hD0⟩ := hv
  have hx := B.exec
  have hb := B.bytes
  have hts := atoms_spec (ws := w_R_shift) B.pre
  have htb : ∀ w ∈ TBG, w.before [.ref (ad 0), .int (nI p1), .int d].toArray s = true := fun w h => hts w (List.mem_cons_of_mem _ h)
  have hown : s.vm.findClass R_R = some m.cls := findClass_of_methodNamed B.named
  have hlocks := B.notSynchronized
  subst hsz
  have hD := hD0.self (sz := s.heap.size)
  have hPs := hP
  generalize hAe : va_A (wR ad ca P S G) s.heap.size = A at hD ⊢
  have hA : ∀ q : Nat, s.heap.size ≤ q → A q := fun q h => by rw [← hAe]; exact Or.inr h
  have hS : va_S A s.heap s.heap [] := va_S.rf
  have hl := lv_entry ([.ref (ad 0), .int (nI p1), .int d]) (n := 3) (Nat.le_of_ble_eq_true rfl)
  rw [lg_entry_eq]
  generalize (lg_sl ([.ref (ad 0), .int (nI p1), .int d]) ++ List.replicate (3 - (lg_sl ([.ref (ad 0), .int (nI p1), .int d])).length) Slot.unset).toArray = ls at hl ⊢
  have hl : lv_has ls 3 [(0, .ref (ad 0)), (1, .int (nI p1)), (2, .int d)] := hl
  refine nr_start hP hS (fun H locs hP hS => ?_)
  obtain ⟨h00, h01, h02, h03, h04, h05, hp1, hp2, hp3, hp4, hp5, hp6⟩ := id hP0
  obtain ⟨g00, g01, g02, g03, g04, g05, g06, hs1, hs2, hs3, hs4, hs5, hs6, hs7⟩ := id hS0
  obtain ⟨k00, k01, hg1, hg2⟩ := id hG0
  refine lv_aload_n hx hb d_R_shift_0 rfl (lv_at hl 0 rfl) ?_
  refine lv_iload_n hx hb d_R_shift_1 rfl (lv_at hl 1 rfl) ?_
  refine nr_callv (wr := ([] : va_W)) (va_runV (As := [.int (nI p1)]) (rest := []) ⟨hx, hb, hml, hown, hts⟩ (r_R_refuseUnknownPerson l D ad ca P S G hP0 hS0 hG0 p1 (by omega) H.size) ⟨callB_of 1 hts (gTB q_R_refuseUnknownPerson) rfl rfl rfl (htb _ q1) (htb _ q409) hd_R_refuseUnknownPerson ⟨Nat.le_of_ble_eq_true rfl, Nat.le_of_ble_eq_true rfl⟩, (htb _ q411), (htb _ sel_R_refuseUnknownPerson)⟩ ⟨rw_blind, va_recv (hK.sub (tys' := []) [] rfl) hP (ci := 2) (q0 := 15) rfl rfl, rw_pre hN (hP.sub (ws' := (wR ad ca P S G)) [0, 1, 2, 3, 4, 5, 6, 7, 8, 9, 10, 11, 12, 13, 14, 15, 16, 17] rfl) (hK.sub (tys' := (tR ca)) [0, 1, 2, 3, 4, 5, 6, 7, 8, 9, 10, 11, 12, 13, 14] rfl) (hD.sub (ws' := (wR ad ca P S G)) [0, 1, 2, 3, 4, 5, 6, 7, 8, 9, 10, 11, 12, 13, 14, 15, 16, 17] (by decide) rfl)⟩ rfl rfl hl.1 rfl (lv_room (Nat.le_of_ble_eq_true rfl)) d_R_shift_2 ⟨Nat.le_of_ble_eq_true rfl, Nat.le_of_ble_eq_true rfl⟩) hP hD hS hA [0, 1, 2, 3, 4, 5, 6, 7, 8, 9, 10, 11, 12, 13, 14, 15, 16, 17] [] rfl rfl (by decide) (by decide) (fun u_1 H locs hu_1 hP hD hS => ?_)
  replace hP := hP.sub (ws' := wR ad ca P S G) [0, 1, 2, 3, 4, 5, 6, 7, 8, 9, 10, 11, 12, 13, 14, 15, 16, 17] rfl
  replace hD := hD.sub (ws' := wR ad ca P S G) [0, 1, 2, 3, 4, 5, 6, 7, 8, 9, 10, 11, 12, 13, 14, 15, 16, 17] (by decide) rfl
  refine lv_aload_n hx hb d_R_shift_5 rfl (lv_at hl 0 rfl) ?_
  refine lv_iload_n hx hb d_R_shift_6 rfl (lv_at hl 2 rfl) ?_
  intro T hT X
  exact nr_out (nr_runVT (As := [.int d]) (rest := []) ⟨hx, hb, hml, hown, hts⟩ (t_R_refuseUnknownDay l htr D ad ca P S G hP0 hS0 hG0 d hbad H.size) ⟨callB_of 1 hts (gTB q_R_refuseUnknownDay) rfl rfl rfl (htb _ q1) (htb _ q364) hd_R_refuseUnknownDay ⟨Nat.le_of_ble_eq_true rfl, Nat.le_of_ble_eq_true rfl⟩, (htb _ q366), (htb _ sel_R_refuseUnknownDay)⟩ ⟨tw_blind, va_recv (hK.sub (tys' := []) [] rfl) hP (ci := 2) (q0 := 15) rfl rfl, fun U hU hW => ⟨rfl, by rw [hU], hN.warm hW, tx_keep hX hPs (by rw [hAe]; exact hS) U hU hW, by rw [hU]; exact hP, va_K.moved hW.alike hK, hD.weaken (fun _ _ _ _ => trivial)⟩⟩ rfl rfl hl.1 rfl (lv_room (Nat.le_of_ble_eq_true rfl)) d_R_shift_7 ⟨Nat.le_of_ble_eq_true rfl, Nat.le_of_ble_eq_true rfl⟩) (no_handlers X B.named (hts _ List.mem_cons_self) _) hS.2.2 (va_free (wc := (wR ad ca P S G)) hD hS hA [0, 1, 2, 3, 4, 5, 6, 7, 8, 9, 10, 11, 12, 13, 14, 15, 16, 17] rfl) hlocks (fun v st t U h0 hw hq hU hW => tqw_up h0 hS.1 hw hq hU) T hT X
set_option maxHeartbeats 4000000 in
set_option maxRecDepth 100000 in
theorem t_R_solve_1 (l : Launch) (htr : l.stackTraces = false) (D : va_G) (ad : Nat → Nat) (ca : Nat → ClassId) (P S G : Nat → Nat → Nat) (hP0 : okP P) (hS0 : okS S) (hG0 : okG G) (x : Int32) (hbad : decide (nI 0 ≤ x ∧ x ≤ nI 20000) = false) (sz : Nat) : MetT l y_R_solve w_R_solve { frames := 8, cells := 1, slots := 6, locals := 180 } (tw_P [.ref (ad 0), .int x] D (wR ad ca P S G) (tR ca) sz) (tqw "java/lang/IndexOutOfBoundsException" D (wR ad ca P S G)) 1 6 (va_A (wR ad ca P S G) sz) := by
  refine MetT.ofW (cc := b_R_solve) (maxL := 2) (ret := (some .int)) (by decide) rfl ?_
  intro p e s m args below meth c s₁ B hml hv
  obtain ⟨rfl, hsz, hN, hX, hP, hK, hD0⟩ := hv
  have hx := B.exec
  have hb := B.bytes
  have hts := atoms_spec (ws := w_R_solve) B.pre
  have htb : ∀ w ∈ TBG, w.before [.ref (ad 0), .int x].toArray s = true := fun w h => hts w (List.mem_cons_of_mem _ h)
  have hown : s.vm.findClass R_R = some m.cls := findClass_of_methodNamed B.named
  have hlocks := B.notSynchronized
  subst hsz
  have hD := hD0.self (sz := s.heap.size)
  have hPs := hP
  generalize hAe : va_A (wR ad ca P S G) s.heap.size = A at hD ⊢
  have hA : ∀ q : Nat, s.heap.size ≤ q → A q := fun q h => by rw [← hAe]; exact Or.inr h
  have hS : va_S A s.heap s.heap [] := va_S.rf
  have hl := lv_entry ([.ref (ad 0), .int x]) (n := 2) (Nat.le_of_ble_eq_true rfl)
  rw [lg_entry_eq]
  generalize (lg_sl ([.ref (ad 0), .int x]) ++ List.replicate (2 - (lg_sl ([.ref (ad 0), .int x])).length) Slot.unset).toArray = ls at hl ⊢
  have hl : lv_has ls 2 [(0, .ref (ad 0)), (1, .int x)] := hl
  refine nr_start hP hS (fun H locs hP hS => ?_)
  obtain ⟨h00, h01, h02, h03, h04, h05, hp1, hp2, hp3, hp4, hp5, hp6⟩ := id hP0
  obtain ⟨g00, g01, g02, g03, g04, g05, g06, hs1, hs2, hs3, hs4, hs5, hs6, hs7⟩ := id hS0
  obtain ⟨k00, k01, hg1, hg2⟩ := id hG0
  refine lv_iload_n hx hb d_R_solve_0 rfl (lv_at hl 1 rfl) ?_
  refine nr_iconst hx hb 0 d_R_solve_1 (by decide) ?_
  refine nr_sipush hx hb 20000 d_R_solve_2 (by decide) ?_
  intro T hT X
  exact nr_out (nr_runST (As := [.int x, .int (nI 0), .int (nI 20000)]) (rest := []) ⟨hx, hb, hml, hown, hts⟩ (t_R_refuseOutside l htr x (nI 0) (nI 20000) (in_bad hbad)) ⟨callB_of 3 hts (gTB q_R_refuseOutside) rfl rfl rfl (htb _ q1) (htb _ q244) hd_R_refuseOutside ⟨Nat.le_of_ble_eq_true rfl, Nat.le_of_ble_eq_true rfl⟩, (htb _ q245)⟩ ⟨tx_blind, fun U hU hW => ⟨rfl, hN.warm hW, tx_keep hX hPs (by rw [hAe]; exact hS) U hU hW⟩⟩ rfl rfl hl.1 rfl (lv_room (Nat.le_of_ble_eq_true rfl)) d_R_solve_5 ⟨Nat.le_of_ble_eq_true rfl, Nat.le_of_ble_eq_true rfl⟩) (no_handlers X B.named (hts _ List.mem_cons_self) _) hS.2.2 (fun _ h => h.elim) hlocks (fun v st t U h0 hw hq hU hW => tqw_at hP h0 hS.1 hw hq hU) T hT X
set_option maxHeartbeats 4000000 in
set_option maxRecDepth 100000 in
theorem t_R_solved_1 (l : Launch) (htr : l.stackTraces = false) (D : va_G) (ad : Nat → Nat) (ca : Nat → ClassId) (P S G : Nat → Nat → Nat) (hP0 : okP P) (hS0 : okS S) (hG0 : okG G) (x : Int32) (hbad : decide (nI 0 ≤ x ∧ x ≤ nI 2) = false) (sz : Nat) : MetT l y_R_solved w_R_solved { frames := 8, cells := 1, slots := 6, locals := 180 } (tw_P [.ref (ad 0), .int x] D (wR ad ca P S G) (tR ca) sz) (tqw "java/lang/IllegalArgumentException" D (wR ad ca P S G)) 1 6 (va_A (wR ad ca P S G) sz) := by
  refine MetT.ofW (cc := b_R_solved) (maxL := 2) (ret := (some .int)) (by decide) rfl ?_
  intro p e s m args below meth c s₁ B hml hv
  obtain ⟨rfl, hsz, hN, hX, hP, hK, hD0⟩ := hv
  have hx := B.exec
  have hb := B.bytes
  have hts := atoms_spec (ws := w_R_solved) B.pre
  have htb : ∀ w ∈ TBG, w.before [.ref (ad 0), .int x].toArray s = true := fun w h => hts w (List.mem_cons_of_mem _ h)
  have hown : s.vm.findClass R_R = some m.cls := findClass_of_methodNamed B.named
  have hlocks := B.notSynchronized
  subst hsz
  have hD := hD0.self (sz := s.heap.size)
  have hPs := hP
  generalize hAe : va_A (wR ad ca P S G) s.heap.size = A at hD ⊢
  have hA : ∀ q : Nat, s.heap.size ≤ q → A q := fun q h => by rw [← hAe]; exact Or.inr h
  have hS : va_S A s.heap s.heap [] := va_S.rf
  have hl := lv_entry ([.ref (ad 0), .int x]) (n := 2) (Nat.le_of_ble_eq_true rfl)
  rw [lg_entry_eq]
  generalize (lg_sl ([.ref (ad 0), .int x]) ++ List.replicate (2 - (lg_sl ([.ref (ad 0), .int x])).length) Slot.unset).toArray = ls at hl ⊢
  have hl : lv_has ls 2 [(0, .ref (ad 0)), (1, .int x)] := hl
  refine nr_start hP hS (fun H locs hP hS => ?_)
  obtain ⟨h00, h01, h02, h03, h04, h05, hp1, hp2, hp3, hp4, hp5, hp6⟩ := id hP0
  obtain ⟨g00, g01, g02, g03, g04, g05, g06, hs1, hs2, hs3, hs4, hs5, hs6, hs7⟩ := id hS0
  obtain ⟨k00, k01, hg1, hg2⟩ := id hG0
  refine lv_iload_n hx hb d_R_solved_0 rfl (lv_at hl 1 rfl) ?_
  refine nr_iconst hx hb 0 d_R_solved_1 (by decide) ?_
  refine nr_iconst hx hb 2 d_R_solved_2 (by decide) ?_
  intro T hT X
  exact nr_out (nr_runST (As := [.int x, .int (nI 0), .int (nI 2)]) (rest := []) ⟨hx, hb, hml, hown, hts⟩ (t_R_refuseUnknown l htr x (nI 0) (nI 2) (in_bad hbad)) ⟨callB_of 3 hts (gTB q_R_refuseUnknown) rfl rfl rfl (htb _ q1) (htb _ q368) hd_R_refuseUnknown ⟨Nat.le_of_ble_eq_true rfl, Nat.le_of_ble_eq_true rfl⟩, (htb _ q369)⟩ ⟨tx_blind, fun U hU hW => ⟨rfl, hN.warm hW, tx_keep hX hPs (by rw [hAe]; exact hS) U hU hW⟩⟩ rfl rfl hl.1 rfl (lv_room (Nat.le_of_ble_eq_true rfl)) d_R_solved_3 ⟨Nat.le_of_ble_eq_true rfl, Nat.le_of_ble_eq_true rfl⟩) (no_handlers X B.named (hts _ List.mem_cons_self) _) hS.2.2 (fun _ h => h.elim) hlocks (fun v st t U h0 hw hq hU hW => tqw_at hP h0 hS.1 hw hq hU) T hT X
set_option maxHeartbeats 4000000 in
set_option maxRecDepth 100000 in
theorem t_R_count_1 (l : Launch) (htr : l.stackTraces = false) (D : va_G) (ad : Nat → Nat) (ca : Nat → ClassId) (P S G : Nat → Nat → Nat) (hP0 : okP P) (hS0 : okS S) (hG0 : okG G) (x : Int32) (hbad : decide (nI 0 ≤ x ∧ x ≤ nI 4) = false) (sz : Nat) : MetT l y_R_count w_R_count { frames := 8, cells := 1, slots := 6, locals := 180 } (tw_P [.ref (ad 0), .int x] D (wR ad ca P S G) (tR ca) sz) (tqw "java/lang/IllegalArgumentException" D (wR ad ca P S G)) 1 6 (va_A (wR ad ca P S G) sz) := by
  refine MetT.ofW (cc := b_R_count) (maxL := 2) (ret := (some .int)) (by decide) rfl ?_
  intro p e s m args below meth c s₁ B hml hv
  obtain ⟨rfl, hsz, hN, hX, hP, hK, hD0⟩ := hv
  have hx := B.exec
  have hb := B.bytes
  have hts := atoms_spec (ws := w_R_count) B.pre
  have htb : ∀ w ∈ TBG, w.before [.ref (ad 0), .int x].toArray s = true := fun w h => hts w (List.mem_cons_of_mem _ h)
  have hown : s.vm.findClass R_R = some m.cls := findClass_of_methodNamed B.named
  have hlocks := B.notSynchronized
  subst hsz
  have hD := hD0.self (sz := s.heap.size)
  have hPs := hP
  generalize hAe : va_A (wR ad ca P S G) s.heap.size = A at hD ⊢
  have hA : ∀ q : Nat, s.heap.size ≤ q → A q := fun q h => by rw [← hAe]; exact Or.inr h
  have hS : va_S A s.heap s.heap [] := va_S.rf
  have hl := lv_entry ([.ref (ad 0), .int x]) (n := 2) (Nat.le_of_ble_eq_true rfl)
  rw [lg_entry_eq]
  generalize (lg_sl ([.ref (ad 0), .int x]) ++ List.replicate (2 - (lg_sl ([.ref (ad 0), .int x])).length) Slot.unset).toArray = ls at hl ⊢
  have hl : lv_has ls 2 [(0, .ref (ad 0)), (1, .int x)] := hl
  refine nr_start hP hS (fun H locs hP hS => ?_)
  obtain ⟨h00, h01, h02, h03, h04, h05, hp1, hp2, hp3, hp4, hp5, hp6⟩ := id hP0
  obtain ⟨g00, g01, g02, g03, g04, g05, g06, hs1, hs2, hs3, hs4, hs5, hs6, hs7⟩ := id hS0
  obtain ⟨k00, k01, hg1, hg2⟩ := id hG0
  refine lv_iload_n hx hb d_R_count_0 rfl (lv_at hl 1 rfl) ?_
  refine nr_iconst hx hb 0 d_R_count_1 (by decide) ?_
  refine nr_iconst hx hb 4 d_R_count_2 (by decide) ?_
  intro T hT X
  exact nr_out (nr_runST (As := [.int x, .int (nI 0), .int (nI 4)]) (rest := []) ⟨hx, hb, hml, hown, hts⟩ (t_R_refuseUnknown l htr x (nI 0) (nI 4) (in_bad hbad)) ⟨callB_of 3 hts (gTB q_R_refuseUnknown) rfl rfl rfl (htb _ q1) (htb _ q368) hd_R_refuseUnknown ⟨Nat.le_of_ble_eq_true rfl, Nat.le_of_ble_eq_true rfl⟩, (htb _ q369)⟩ ⟨tx_blind, fun U hU hW => ⟨rfl, hN.warm hW, tx_keep hX hPs (by rw [hAe]; exact hS) U hU hW⟩⟩ rfl rfl hl.1 rfl (lv_room (Nat.le_of_ble_eq_true rfl)) d_R_count_3 ⟨Nat.le_of_ble_eq_true rfl, Nat.le_of_ble_eq_true rfl⟩) (no_handlers X B.named (hts _ List.mem_cons_self) _) hS.2.2 (fun _ h => h.elim) hlocks (fun v st t U h0 hw hq hU hW => tqw_at hP h0 hS.1 hw hq hU) T hT X
set_option maxHeartbeats 4000000 in
set_option maxRecDepth 100000 in
theorem t_R_share_1 (l : Launch) (htr : l.stackTraces = false) (D : va_G) (ad : Nat → Nat) (ca : Nat → ClassId) (P S G : Nat → Nat → Nat) (hP0 : okP P) (hS0 : okS S) (hG0 : okG G) (p1 : Int32) (hbad : inR p1 (P 0 0) = false) (sz : Nat) : MetT l y_R_share w_R_share { frames := 8, cells := 1, slots := 6, locals := 180 } (tw_P [.ref (ad 0), .int p1] D (wR ad ca P S G) (tR ca) sz) (tqw "java/lang/IllegalArgumentException" D (wR ad ca P S G)) 1 6 (va_A (wR ad ca P S G) sz) := by
  refine MetT.ofW (cc := b_R_share) (maxL := 3) (ret := (some .int)) (by decide) rfl ?_
  intro p e s m args below meth c s₁ B hml hv
  obtain ⟨rfl, hsz, hN, hX, hP, hK, hD0⟩ := hv
  have hx := B.exec
  have hb := B.bytes
  have hts := atoms_spec (ws := w_R_share) B.pre
  have htb : ∀ w ∈ TBG, w.before [.ref (ad 0), .int p1].toArray s = true := fun w h => hts w (List.mem_cons_of_mem _ h)
  have hown : s.vm.findClass R_R = some m.cls := findClass_of_methodNamed B.named
  have hlocks := B.notSynchronized
  subst hsz
  have hD := hD0.self (sz := s.heap.size)
  have hPs := hP
  generalize hAe : va_A (wR ad ca P S G) s.heap.size = A at hD ⊢
  have hA : ∀ q : Nat, s.heap.size ≤ q → A q := fun q h => by rw [← hAe]; exact Or.inr h
  have hS : va_S A s.heap s.heap [] := va_S.rf
  have hl := lv_entry ([.ref (ad 0), .int p1]) (n := 3) (Nat.le_of_ble_eq_true rfl)
  rw [lg_entry_eq]
  generalize (lg_sl ([.ref (ad 0), .int p1]) ++ List.replicate (3 - (lg_sl ([.ref (ad 0), .int p1])).length) Slot.unset).toArray = ls at hl ⊢
  have hl : lv_has ls 3 [(0, .ref (ad 0)), (1, .int p1)] := hl
  refine nr_start hP hS (fun H locs hP hS => ?_)
  obtain ⟨h00, h01, h02, h03, h04, h05, hp1, hp2, hp3, hp4, hp5, hp6⟩ := id hP0
  obtain ⟨g00, g01, g02, g03, g04, g05, g06, hs1, hs2, hs3, hs4, hs5, hs6, hs7⟩ := id hS0
  obtain ⟨k00, k01, hg1, hg2⟩ := id hG0
  refine lv_aload_n hx hb d_R_share_0 rfl (lv_at hl 0 rfl) ?_
  refine lv_iload_n hx hb d_R_share_1 rfl (lv_at hl 1 rfl) ?_
  intro T hT X
  exact nr_out (nr_runVT (As := [.int p1]) (rest := []) ⟨hx, hb, hml, hown, hts⟩ (t_R_refuseUnknownPerson l htr D ad ca P S G hP0 hS0 hG0 p1 hbad H.size) ⟨callB_of 1 hts (gTB q_R_refuseUnknownPerson) rfl rfl rfl (htb _ q1) (htb _ q409) hd_R_refuseUnknownPerson ⟨Nat.le_of_ble_eq_true rfl, Nat.le_of_ble_eq_true rfl⟩, (htb _ q411), (htb _ sel_R_refuseUnknownPerson)⟩ ⟨tw_blind, va_recv (hK.sub (tys' := []) [] rfl) hP (ci := 2) (q0 := 15) rfl rfl, fun U hU hW => ⟨rfl, by rw [hU], hN.warm hW, tx_keep hX hPs (by rw [hAe]; exact hS) U hU hW, by rw [hU]; exact hP, va_K.moved hW.alike hK, hD.weaken (fun _ _ _ _ => trivial)⟩⟩ rfl rfl hl.1 rfl (lv_room (Nat.le_of_ble_eq_true rfl)) d_R_share_2 ⟨Nat.le_of_ble_eq_true rfl, Nat.le_of_ble_eq_true rfl⟩) (no_handlers X B.named (hts _ List.mem_cons_self) _) hS.2.2 (va_free (wc := (wR ad ca P S G)) hD hS hA [0, 1, 2, 3, 4, 5, 6, 7, 8, 9, 10, 11, 12, 13, 14, 15, 16, 17] rfl) hlocks (fun v st t U h0 hw hq hU hW => tqw_up h0 hS.1 hw hq hU) T hT X
set_option maxHeartbeats 4000000 in
set_option maxRecDepth 100000 in
theorem t_R_freeze_1a (l : Launch) (htr : l.stackTraces = false) (D : va_G) (ad : Nat → Nat) (ca : Nat → ClassId) (P S G : Nat → Nat → Nat) (hP0 : okP P) (hS0 : okS S) (hG0 : okG G) (x : Int32) (hlt : x < nI (G 0 0)) (sz : Nat) : MetT l y_R_freeze w_R_freeze { frames := 8, cells := 1, slots := 6, locals := 180 } (tw_P [.ref (ad 0), .int x] D (wR ad ca P S G) (tR ca) sz) (tqw "java/lang/IndexOutOfBoundsException" D (wR ad ca P S G)) 1 6 (va_A (wR ad ca P S G) sz) := by
  refine MetT.ofW (cc := b_R_freeze) (maxL := 2) (ret := none) (by decide) rfl ?_
  intro p e s m args below meth c s₁ B hml hv
  obtain ⟨rfl, hsz, hN, hX, hP, hK, hD0⟩ := hv
  have hx := B.exec
  have hb := B.bytes
  have hts := atoms_spec (ws := w_R_freeze) B.pre
  have htb : ∀ w ∈ TBG, w.before [.ref (ad 0), .int x].toArray s = true := fun w h => hts w (List.mem_cons_of_mem _ h)
  have hown : s.vm.findClass R_R = some m.cls := findClass_of_methodNamed B.named
  have hlocks := B.notSynchronized
  subst hsz
  have hD := hD0.self (sz := s.heap.size)
  have hPs := hP
  generalize hAe : va_A (wR ad ca P S G) s.heap.size = A at hD ⊢
  have hA : ∀ q : Nat, s.heap.size ≤ q → A q := fun q h => by rw [← hAe]; exact Or.inr h
  have hS : va_S A s.heap s.heap [] := va_S.rf
  have hl := lv_entry ([.ref (ad 0), .int x]) (n := 2) (Nat.le_of_ble_eq_true rfl)
  rw [lg_entry_eq]
  generalize (lg_sl ([.ref (ad 0), .int x]) ++ List.replicate (2 - (lg_sl ([.ref (ad 0), .int x])).length) Slot.unset).toArray = ls at hl ⊢
  have hl : lv_has ls 2 [(0, .ref (ad 0)), (1, .int x)] := hl
  refine nr_start hP hS (fun H locs hP hS => ?_)
  obtain ⟨h00, h01, h02, h03, h04, h05, hp1, hp2, hp3, hp4, hp5, hp6⟩ := id hP0
  obtain ⟨g00, g01, g02, g03, g04, g05, g06, hs1, hs2, hs3, hs4, hs5, hs6, hs7⟩ := id hS0
  obtain ⟨k00, k01, hg1, hg2⟩ := id hG0
  refine lv_iload_n hx hb d_R_freeze_0 rfl (lv_at hl 1 rfl) ?_
  refine lv_aload_n hx hb d_R_freeze_1 rfl (lv_at hl 0 rfl) ?_
  refine va_get (D := D) (ci := 2) (v := .int (nI (G 0 0))) (C := R_R) (T := F_R) (N := 6) hx hb htb u_R hown hK hP 15 rfl rfl 4 (by decide) (htb _ q138) (fun _ h9 => h9) rfl d_R_freeze_2 ?_
  refine lv_aload_n hx hb d_R_freeze_5 rfl (lv_at hl 0 rfl) ?_
  refine va_get (D := D) (ci := 2) (v := .ref (ad 1)) (C := R_R) (T := F_R) (N := 6) hx hb htb u_R hown hK hP 15 rfl rfl 0 (by decide) (htb _ q134) (fun _ h9 => h9) rfl d_R_freeze_6 ?_
  refine va_getN (D := D) (ci := 0) (v := .int (nI (P 0 1))) (C := R_P) (T := F_P) (N := 12) hx hb htb u_P hown hK hP 0 rfl rfl 1 (by decide) (hN.at q33 rfl rfl) (fun _ h9 => h9) rfl d_R_freeze_9 ?_
  intro T hT X
  exact nr_out (nr_runST (As := [.int x, .int (nI (G 0 0)), .int (nI (P 0 1))]) (rest := []) ⟨hx, hb, hml, hown, hts⟩ (t_R_refuseOutside l htr x (nI (G 0 0)) (nI (P 0 1)) (Or.inl hlt)) ⟨callB_of 3 hts (gTB q_R_refuseOutside) rfl rfl rfl (htb _ q1) (htb _ q244) hd_R_refuseOutside ⟨Nat.le_of_ble_eq_true rfl, Nat.le_of_ble_eq_true rfl⟩, (htb _ q245)⟩ ⟨tx_blind, fun U hU hW => ⟨rfl, hN.warm hW, tx_keep hX hPs (by rw [hAe]; exact hS) U hU hW⟩⟩ rfl rfl hl.1 rfl (lv_room (Nat.le_of_ble_eq_true rfl)) d_R_freeze_12 ⟨Nat.le_of_ble_eq_true rfl, Nat.le_of_ble_eq_true rfl⟩) (no_handlers X B.named (hts _ List.mem_cons_self) _) hS.2.2 (fun _ h => h.elim) hlocks (fun v st t U h0 hw hq hU hW => tqw_at hP h0 hS.1 hw hq hU) T hT X
set_option maxHeartbeats 4000000 in
set_option maxRecDepth 100000 in
theorem t_R_freeze_1b (l : Launch) (htr : l.stackTraces = false) (D : va_G) (ad : Nat → Nat) (ca : Nat → ClassId) (P S G : Nat → Nat → Nat) (hP0 : okP P) (hS0 : okS S) (hG0 : okG G) (x : Int32) (hge : ¬ x < nI (G 0 0)) (hgt : ¬ x ≤ nI (P 0 1)) (sz : Nat) : MetT l y_R_freeze w_R_freeze { frames := 8, cells := 1, slots := 6, locals := 180 } (tw_P [.ref (ad 0), .int x] D (wR ad ca P S G) (tR ca) sz) (tqw "java/lang/IndexOutOfBoundsException" D (wR ad ca P S G)) 1 6 (va_A (wR ad ca P S G) sz) := by
  refine MetT.ofW (cc := b_R_freeze) (maxL := 2) (ret := none) (by decide) rfl ?_
  intro p e s m args below meth c s₁ B hml hv
  obtain ⟨rfl, hsz, hN, hX, hP, hK, hD0⟩ := hv
  have hx := B.exec
  have hb := B.bytes
  have hts := atoms_spec (ws := w_R_freeze) B.pre
  have htb : ∀ w ∈ TBG, w.before [.ref (ad 0), .int x].toArray s = true := fun w h => hts w (List.mem_cons_of_mem _ h)
  have hown : s.vm.findClass R_R = some m.cls := findClass_of_methodNamed B.named
  have hlocks := B.notSynchronized
  subst hsz
  have hD := hD0.self (sz := s.heap.size)
  have hPs := hP
  generalize hAe : va_A (wR ad ca P S G) s.heap.size = A at hD ⊢
  have hA : ∀ q : Nat, s.heap.size ≤ q → A q := fun q h => by rw [← hAe]; exact Or.inr h
  have hS : va_S A s.heap s.heap [] := va_S.rf
  have hl := lv_entry ([.ref (ad 0), .int x]) (n := 2) (Nat.le_of_ble_eq_true rfl)
  rw [lg_entry_eq]
  generalize (lg_sl ([.ref (ad 0), .int x]) ++ List.replicate (2 - (lg_sl ([.ref (ad 0), .int x])).length) Slot.unset).toArray = ls at hl ⊢
  have hl : lv_has ls 2 [(0, .ref (ad 0)), (1, .int x)] := hl
  refine nr_start hP hS (fun H locs hP hS => ?_)
  obtain ⟨h00, h01, h02, h03, h04, h05, hp1, hp2, hp3, hp4, hp5, hp6⟩ := id hP0
  obtain ⟨g00, g01, g02, g03, g04, g05, g06, hs1, hs2, hs3, hs4, hs5, hs6, hs7⟩ := id hS0
  obtain ⟨k00, k01, hg1, hg2⟩ := id hG0
  refine lv_iload_n hx hb d_R_freeze_0 rfl (lv_at hl 1 rfl) ?_
  refine lv_aload_n hx hb d_R_freeze_1 rfl (lv_at hl 0 rfl) ?_
  refine va_get (D := D) (ci := 2) (v := .int (nI (G 0 0))) (C := R_R) (T := F_R) (N := 6) hx hb htb u_R hown hK hP 15 rfl rfl 4 (by decide) (htb _ q138) (fun _ h9 => h9) rfl d_R_freeze_2 ?_
  refine lv_aload_n hx hb d_R_freeze_5 rfl (lv_at hl 0 rfl) ?_
  refine va_get (D := D) (ci := 2) (v := .ref (ad 1)) (C := R_R) (T := F_R) (N := 6) hx hb htb u_R hown hK hP 15 rfl rfl 0 (by decide) (htb _ q134) (fun _ h9 => h9) rfl d_R_freeze_6 ?_
  refine va_getN (D := D) (ci := 0) (v := .int (nI (P 0 1))) (C := R_P) (T := F_P) (N := 12) hx hb htb u_P hown hK hP 0 rfl rfl 1 (by decide) (hN.at q33 rfl rfl) (fun _ h9 => h9) rfl d_R_freeze_9 ?_
  intro T hT X
  exact nr_out (nr_runST (As := [.int x, .int (nI (G 0 0)), .int (nI (P 0 1))]) (rest := []) ⟨hx, hb, hml, hown, hts⟩ (t_R_refuseOutside l htr x (nI (G 0 0)) (nI (P 0 1)) (Or.inr hgt)) ⟨callB_of 3 hts (gTB q_R_refuseOutside) rfl rfl rfl (htb _ q1) (htb _ q244) hd_R_refuseOutside ⟨Nat.le_of_ble_eq_true rfl, Nat.le_of_ble_eq_true rfl⟩, (htb _ q245)⟩ ⟨tx_blind, fun U hU hW => ⟨rfl, hN.warm hW, tx_keep hX hPs (by rw [hAe]; exact hS) U hU hW⟩⟩ rfl rfl hl.1 rfl (lv_room (Nat.le_of_ble_eq_true rfl)) d_R_freeze_12 ⟨Nat.le_of_ble_eq_true rfl, Nat.le_of_ble_eq_true rfl⟩) (no_handlers X B.named (hts _ List.mem_cons_self) _) hS.2.2 (fun _ h => h.elim) hlocks (fun v st t U h0 hw hq hU hW => tqw_at hP h0 hS.1 hw hq hU) T hT X
set_option maxHeartbeats 4000000 in
set_option maxRecDepth 100000 in
theorem t_R_swap_1a (l : Launch) (htr : l.stackTraces = false) (D : va_G) (ad : Nat → Nat) (ca : Nat → ClassId) (P S G : Nat → Nat → Nat) (hP0 : okP P) (hS0 : okS S) (hG0 : okG G) (p1 p2 d : Int32) (hbad : inR p1 (P 0 0) = false) (sz : Nat) : MetT l y_R_swap w_R_swap { frames := 8, cells := 1, slots := 6, locals := 180 } (tw_P [.ref (ad 0), .int p1, .int p2, .int d] D (wR ad ca P S G) (tR ca) sz) (tqw "java/lang/IllegalArgumentException" D (wR ad ca P S G)) 1 6 (va_A (wR ad ca P S G) sz) := by
  refine MetT.ofW (cc := b_R_swap) (maxL := 4) (ret := none) (by decide) rfl ?_
  intro p e s m args below meth c s₁ B hml hv
  obtain ⟨rfl, hsz, hN, hX, hP, hK, hD0⟩ := hv
  have hx := B.exec
  have hb := B.bytes
  have hts := atoms_spec (ws := w_R_swap) B.pre
  have htb : ∀ w ∈ TBG, w.before [.ref (ad 0), .int p1, .int p2, .int d].toArray s = true := fun w h => hts w (List.mem_cons_of_mem _ h)
  have hown : s.vm.findClass R_R = some m.cls := findClass_of_methodNamed B.named
  have hlocks := B.notSynchronized
  subst hsz
  have hD := hD0.self (sz := s.heap.size)
  have hPs := hP
  generalize hAe : va_A (wR ad ca P S G) s.heap.size = A at hD ⊢
  have hA : ∀ q : Nat, s.heap.size ≤ q → A q := fun q h => by rw [← hAe]; exact Or.inr h
  have hS : va_S A s.heap s.heap [] := va_S.rf
  have hl := lv_entry ([.ref (ad 0), .int p1, .int p2, .int d]) (n := 4) (Nat.le_of_ble_eq_true rfl)
  rw [lg_entry_eq]
  generalize (lg_sl ([.ref (ad 0), .int p1, .int p2, .int d]) ++ List.replicate (4 - (lg_sl ([.ref (ad 0), .int p1, .int p2, .int d])).length) Slot.unset).toArray = ls at hl ⊢
  have hl : lv_has ls 4 [(0, .ref (ad 0)), (1, .int p1), (2, .int p2), (3, .int d)] := hl
  refine nr_start hP hS (fun H locs hP hS => ?_)
  obtain ⟨h00, h01, h02, h03, h04, h05, hp1, hp2, hp3, hp4, hp5, hp6⟩ := id hP0
  obtain ⟨g00, g01, g02, g03, g04, g05, g06, hs1, hs2, hs3, hs4, hs5, hs6, hs7⟩ := id hS0
  obtain ⟨k00, k01, hg1, hg2⟩ := id hG0
  refine lv_aload_n hx hb d_R_swap_0 rfl (lv_at hl 0 rfl) ?_
  refine lv_iload_n hx hb d_R_swap_1 rfl (lv_at hl 1 rfl) ?_
  intro T hT X
  exact nr_out (nr_runVT (As := [.int p1]) (rest := []) ⟨hx, hb, hml, hown, hts⟩ (t_R_refuseUnknownPerson l htr D ad ca P S G hP0 hS0 hG0 p1 hbad H.size) ⟨callB_of 1 hts (gTB q_R_refuseUnknownPerson) rfl rfl rfl (htb _ q1) (htb _ q409) hd_R_refuseUnknownPerson ⟨Nat.le_of_ble_eq_true rfl, Nat.le_of_ble_eq_true rfl⟩, (htb _ q411), (htb _ sel_R_refuseUnknownPerson)⟩ ⟨tw_blind, va_recv (hK.sub (tys' := []) [] rfl) hP (ci := 2) (q0 := 15) rfl rfl, fun U hU hW => ⟨rfl, by rw [hU], hN.warm hW, tx_keep hX hPs (by rw [hAe]; exact hS) U hU hW, by rw [hU]; exact hP, va_K.moved hW.alike hK, hD.weaken (fun _ _ _ _ => trivial)⟩⟩ rfl rfl hl.1 rfl (lv_room (Nat.le_of_ble_eq_true rfl)) d_R_swap_2 ⟨Nat.le_of_ble_eq_true rfl, Nat.le_of_ble_eq_true rfl⟩) (no_handlers X B.named (hts _ List.mem_cons_self) _) hS.2.2 (va_free (wc := (wR ad ca P S G)) hD hS hA [0, 1, 2, 3, 4, 5, 6, 7, 8, 9, 10, 11, 12, 13, 14, 15, 16, 17] rfl) hlocks (fun v st t U h0 hw hq hU hW => tqw_up h0 hS.1 hw hq hU) T hT X
set_option maxHeartbeats 4000000 in
set_option maxRecDepth 100000 in
theorem t_R_swap_1b (l : Launch) (htr : l.stackTraces = false) (D : va_G) (ad : Nat → Nat) (ca : Nat → ClassId) (P S G : Nat → Nat → Nat) (hP0 : okP P) (hS0 : okS S) (hG0 : okG G) (p1 : Nat) (p2 d : Int32) (h_p1 : p1 < P 0 0) (hbad : inR p2 (P 0 0) = false) (sz : Nat) : MetT l y_R_swap w_R_swap { frames := 8, cells := 1, slots := 6, locals := 180 } (tw_P [.ref (ad 0), .int (nI p1), .int p2, .int d] D (wR ad ca P S G) (tR ca) sz) (tqw "java/lang/IllegalArgumentException" D (wR ad ca P S G)) 1 6 (va_A (wR ad ca P S G) sz) := by
  refine MetT.ofW (cc := b_R_swap) (maxL := 4) (ret := none) (by decide) rfl ?_
  intro p e s m args below meth c s₁ B hml hv
  obtain ⟨rfl, hsz, hN, hX, hP, hK, hD0⟩ := hv
  have hx := B.exec
  have hb := B.bytes
  have hts := atoms_spec (ws := w_R_swap) B.pre
  have htb : ∀ w ∈ TBG, w.before [.ref (ad 0), .int (nI p1), .int p2, .int d].toArray s = true := fun w h => hts w (List.mem_cons_of_mem _ h)
  have hown : s.vm.findClass R_R = some m.cls := findClass_of_methodNamed B.named
  have hlocks := B.notSynchronized
  subst hsz
  have hD := hD0.self (sz := s.heap.size)
  have hPs := hP
  generalize hAe : va_A (wR ad ca P S G) s.heap.size = A at hD ⊢
  have hA : ∀ q : Nat, s.heap.size ≤ q → A q := fun q h => by rw [← hAe]; exact Or.inr h
  have hS : va_S A s.heap s.heap [] := va_S.rf
  have hl := lv_entry ([.ref (ad 0), .int (nI p1), .int p2, .int d]) (n := 4) (Nat.le_of_ble_eq_true rfl)
  rw [lg_entry_eq]
  generalize (lg_sl ([.ref (ad 0), .int (nI p1), .int p2, .int d]) ++ List.replicate (4 - (lg_sl ([.ref (ad 0), .int (nI p1), .int p2, .int d])).length) Slot.unset).toArray = ls at hl ⊢
  have hl : lv_has ls 4 [(0, .ref (ad 0)), (1, .int (nI p1)), (2, .int p2), (3, .int d)] := hl
  refine nr_start hP hS (fun H locs hP hS => ?_)
  obtain ⟨h00, h01, h02, h03, h04, h05, hp1, hp2, hp3, hp4, hp5, hp6⟩ := id hP0
  obtain ⟨g00, g01, g02, g03, g04, g05, g06, hs1, hs2, hs3, hs4, hs5, hs6, hs7⟩ := id hS0
  obtain ⟨k00, k01, hg1, hg2⟩ := id hG0
  refine lv_aload_n hx hb d_R_swap_0 rfl (lv_at hl 0 rfl) ?_
  refine lv_iload_n hx hb d_R_swap_1 rfl (lv_at hl 1 rfl) ?_
  refine nr_callv (wr := ([] : va_W)) (va_runV (As := [.int (nI p1)]) (rest := []) ⟨hx, hb, hml, hown, hts⟩ (r_R_refuseUnknownPerson l D ad ca P S G hP0 hS0 hG0 p1 (by omega) H.size) ⟨callB_of 1 hts (gTB q_R_refuseUnknownPerson) rfl rfl rfl (htb _ q1) (htb _ q409) hd_R_refuseUnknownPerson ⟨Nat.le_of_ble_eq_true rfl, Nat.le_of_ble_eq_true rfl⟩, (htb _ q411), (htb _ sel_R_refuseUnknownPerson)⟩ ⟨rw_blind, va_recv (hK.sub (tys' := []) [] rfl) hP (ci := 2) (q0 := 15) rfl rfl, rw_pre hN (hP.sub (ws' := (wR ad ca P S G)) [0, 1, 2, 3, 4, 5, 6, 7, 8, 9, 10, 11, 12, 13, 14, 15, 16, 17] rfl) (hK.sub (tys' := (tR ca)) [0, 1, 2, 3, 4, 5, 6, 7, 8, 9, 10, 11, 12, 13, 14] rfl) (hD.sub (ws' := (wR ad ca P S G)) [0, 1, 2, 3, 4, 5, 6, 7, 8, 9, 10, 11, 12, 13, 14, 15, 16, 17] (by decide) rfl)⟩ rfl rfl hl.1 rfl (lv_room (Nat.le_of_ble_eq_true rfl)) d_R_swap_2 ⟨Nat.le_of_ble_eq_true rfl, Nat.le_of_ble_eq_true rfl⟩) hP hD hS hA [0, 1, 2, 3, 4, 5, 6, 7, 8, 9, 10, 11, 12, 13, 14, 15, 16, 17] [] rfl rfl (by decide) (by decide) (fun u_1 H locs hu_1 hP hD hS => ?_)
  replace hP := hP.sub (ws' := wR ad ca P S G) [0, 1, 2, 3, 4, 5, 6, 7, 8, 9, 10, 11, 12, 13, 14, 15, 16, 17] rfl
  replace hD := hD.sub (ws' := wR ad ca P S G) [0, 1, 2, 3, 4, 5, 6, 7, 8, 9, 10, 11, 12, 13, 14, 15, 16, 17] (by decide) rfl
  refine lv_aload_n hx hb d_R_swap_5 rfl (lv_at hl 0 rfl) ?_
  refine lv_iload_n hx hb d_R_swap_6 rfl (lv_at hl 2 rfl) ?_
  intro T hT X
  exact nr_out (nr_runVT (As := [.int p2]) (rest := []) ⟨hx, hb, hml, hown, hts⟩ (t_R_refuseUnknownPerson l htr D ad ca P S G hP0 hS0 hG0 p2 hbad H.size) ⟨callB_of 1 hts (gTB q_R_refuseUnknownPerson) rfl rfl rfl (htb _ q1) (htb _ q409) hd_R_refuseUnknownPerson ⟨Nat.le_of_ble_eq_true rfl, Nat.le_of_ble_eq_true rfl⟩, (htb _ q411), (htb _ sel_R_refuseUnknownPerson)⟩ ⟨tw_blind, va_recv (hK.sub (tys' := []) [] rfl) hP (ci := 2) (q0 := 15) rfl rfl, fun U hU hW => ⟨rfl, by rw [hU], hN.warm hW, tx_keep hX hPs (by rw [hAe]; exact hS) U hU hW, by rw [hU]; exact hP, va_K.moved hW.alike hK, hD.weaken (fun _ _ _ _ => trivial)⟩⟩ rfl rfl hl.1 rfl (lv_room (Nat.le_of_ble_eq_true rfl)) d_R_swap_7 ⟨Nat.le_of_ble_eq_true rfl, Nat.le_of_ble_eq_true rfl⟩) (no_handlers X B.named (hts _ List.mem_cons_self) _) hS.2.2 (va_free (wc := (wR ad ca P S G)) hD hS hA [0, 1, 2, 3, 4, 5, 6, 7, 8, 9, 10, 11, 12, 13, 14, 15, 16, 17] rfl) hlocks (fun v st t U h0 hw hq hU hW => tqw_up h0 hS.1 hw hq hU) T hT X
set_option maxHeartbeats 4000000 in
set_option maxRecDepth 100000 in
theorem t_R_swap_1c (l : Launch) (htr : l.stackTraces = false) (D : va_G) (ad : Nat → Nat) (ca : Nat → ClassId) (P S G : Nat → Nat → Nat) (hP0 : okP P) (hS0 : okS S) (hG0 : okG G) (p1 p2 d : Nat) (h_p1 : p1 < P 0 0) (h_p2 : p2 < P 0 0) (h_d : d < P 0 1) (heq : p1 = p2) (sz : Nat) : MetT l y_R_swap w_R_swap { frames := 8, cells := 1, slots := 6, locals := 180 } (tw_P [.ref (ad 0), .int (nI p1), .int (nI p2), .int (nI d)] D (wR ad ca P S G) (tR ca) sz) (tqw "java/lang/IllegalArgumentException" D (wR ad ca P S G)) 1 6 (va_A (wR ad ca P S G) sz) := by
  refine MetT.ofW (cc := b_R_swap) (maxL := 4) (ret := none) (by decide) rfl ?_
  intro p e s m args below meth c s₁ B hml hv
  obtain ⟨rfl, hsz, hN, hX, hP, hK, hD0⟩ := hv
  have hx := B.exec
  have hb := B.bytes
  have hts := atoms_spec (ws := w_R_swap) B.pre
  have htb : ∀ w ∈ TBG, w.before [.ref (ad 0), .int (nI p1), .int (nI p2), .int (nI d)].toArray s = true := fun w h => hts w (List.mem_cons_of_mem _ h)
  have hown : s.vm.findClass R_R = some m.cls := findClass_of_methodNamed B.named
  have hlocks := B.notSynchronized
  subst hsz
  have hD := hD0.self (sz := s.heap.size)
  have hPs := hP
  generalize hAe : va_A (wR ad ca P S G) s.heap.size = A at hD ⊢
  have hA : ∀ q : Nat, s.heap.size ≤ q → A q := fun q h => by rw [← hAe]; exact Or.inr h
  have hS : va_S A s.heap s.heap [] := va_S.rf
  have hl := lv_entry ([.ref (ad 0), .int (nI p1), .int (nI p2), .int (nI d)]) (n := 4) (Nat.le_of_ble_eq_true rfl)
  rw [lg_entry_eq]
  generalize (lg_sl ([.ref (ad 0), .int (nI p1), .int (nI p2), .int (nI d)]) ++ List.replicate (4 - (lg_sl ([.ref (ad 0), .int (nI p1), .int (nI p2), .int (nI d)])).length) Slot.unset).toArray = ls at hl ⊢
  have hl : lv_has ls 4 [(0, .ref (ad 0)), (1, .int (nI p1)), (2, .int (nI p2)), (3, .int (nI d))] := hl
  refine nr_start hP hS (fun H locs hP hS => ?_)
  obtain ⟨h00, h01, h02, h03, h04, h05, hp1, hp2, hp3, hp4, hp5, hp6⟩ := id hP0
  obtain ⟨g00, g01, g02, g03, g04, g05, g06, hs1, hs2, hs3, hs4, hs5, hs6, hs7⟩ := id hS0
  obtain ⟨k00, k01, hg1, hg2⟩ := id hG0
  refine lv_aload_n hx hb d_R_swap_0 rfl (lv_at hl 0 rfl) ?_
  refine lv_iload_n hx hb d_R_swap_1 rfl (lv_at hl 1 rfl) ?_
  refine nr_callv (wr := ([] : va_W)) (va_runV (As := [.int (nI p1)]) (rest := []) ⟨hx, hb, hml, hown, hts⟩ (r_R_refuseUnknownPerson l D ad ca P S G hP0 hS0 hG0 p1 (by omega) H.size) ⟨callB_of 1 hts (gTB q_R_refuseUnknownPerson) rfl rfl rfl (htb _ q1) (htb _ q409) hd_R_refuseUnknownPerson ⟨Nat.le_of_ble_eq_true rfl, Nat.le_of_ble_eq_true rfl⟩, (htb _ q411), (htb _ sel_R_refuseUnknownPerson)⟩ ⟨rw_blind, va_recv (hK.sub (tys' := []) [] rfl) hP (ci := 2) (q0 := 15) rfl rfl, rw_pre hN (hP.sub (ws' := (wR ad ca P S G)) [0, 1, 2, 3, 4, 5, 6, 7, 8, 9, 10, 11, 12, 13, 14, 15, 16, 17] rfl) (hK.sub (tys' := (tR ca)) [0, 1, 2, 3, 4, 5, 6, 7, 8, 9, 10, 11, 12, 13, 14] rfl) (hD.sub (ws' := (wR ad ca P S G)) [0, 1, 2, 3, 4, 5, 6, 7, 8, 9, 10, 11, 12, 13, 14, 15, 16, 17] (by decide) rfl)⟩ rfl rfl hl.1 rfl (lv_room (Nat.le_of_ble_eq_true rfl)) d_R_swap_2 ⟨Nat.le_of_ble_eq_true rfl, Nat.le_of_ble_eq_true rfl⟩) hP hD hS hA [0, 1, 2, 3, 4, 5, 6, 7, 8, 9, 10, 11, 12, 13, 14, 15, 16, 17] [] rfl rfl (by decide) (by decide) (fun u_1 H locs hu_1 hP hD hS => ?_)
  replace hP := hP.sub (ws' := wR ad ca P S G) [0, 1, 2, 3, 4, 5, 6, 7, 8, 9, 10, 11, 12, 13, 14, 15, 16, 17] rfl
  replace hD := hD.sub (ws' := wR ad ca P S G) [0, 1, 2, 3, 4, 5, 6, 7, 8, 9, 10, 11, 12, 13, 14, 15, 16, 17] (by decide) rfl
  refine lv_aload_n hx hb d_R_swap_5 rfl (lv_at hl 0 rfl) ?_
  refine lv_iload_n hx hb d_R_swap_6 rfl (lv_at hl 2 rfl) ?_
  refine nr_callv (wr := ([] : va_W)) (va_runV (As := [.int (nI p2)]) (rest := []) ⟨hx, hb, hml, hown, hts⟩ (r_R_refuseUnknownPerson l D ad ca P S G hP0 hS0 hG0 p2 (by omega) H.size) ⟨callB_of 1 hts (gTB q_R_refuseUnknownPerson) rfl rfl rfl (htb _ q1) (htb _ q409) hd_R_refuseUnknownPerson ⟨Nat.le_of_ble_eq_true rfl, Nat.le_of_ble_eq_true rfl⟩, (htb _ q411), (htb _ sel_R_refuseUnknownPerson)⟩ ⟨rw_blind, va_recv (hK.sub (tys' := []) [] rfl) hP (ci := 2) (q0 := 15) rfl rfl, rw_pre hN (hP.sub (ws' := (wR ad ca P S G)) [0, 1, 2, 3, 4, 5, 6, 7, 8, 9, 10, 11, 12, 13, 14, 15, 16, 17] rfl) (hK.sub (tys' := (tR ca)) [0, 1, 2, 3, 4, 5, 6, 7, 8, 9, 10, 11, 12, 13, 14] rfl) (hD.sub (ws' := (wR ad ca P S G)) [0, 1, 2, 3, 4, 5, 6, 7, 8, 9, 10, 11, 12, 13, 14, 15, 16, 17] (by decide) rfl)⟩ rfl rfl hl.1 rfl (lv_room (Nat.le_of_ble_eq_true rfl)) d_R_swap_7 ⟨Nat.le_of_ble_eq_true rfl, Nat.le_of_ble_eq_true rfl⟩) hP hD hS hA [0, 1, 2, 3, 4, 5, 6, 7, 8, 9, 10, 11, 12, 13, 14, 15, 16, 17] [] rfl rfl (by decide) (by decide) (fun u_2 H locs hu_2 hP hD hS => ?_)
  replace hP := hP.sub (ws' := wR ad ca P S G) [0, 1, 2, 3, 4, 5, 6, 7, 8, 9, 10, 11, 12, 13, 14, 15, 16, 17] rfl
  replace hD := hD.sub (ws' := wR ad ca P S G) [0, 1, 2, 3, 4, 5, 6, 7, 8, 9, 10, 11, 12, 13, 14, 15, 16, 17] (by decide) rfl
  refine lv_iload_n hx hb d_R_swap_10 rfl (lv_at hl 1 rfl) ?_
  refine lv_iload_n hx hb d_R_swap_11 rfl (lv_at hl 2 rfl) ?_
  intro T hT X
  exact nr_out (nr_runST (As := [.int (nI p1), .int (nI p2)]) (rest := []) ⟨hx, hb, hml, hown, hts⟩ (t_R_refuseSame l htr (nI p1) (nI p2) (congrArg nI heq)) ⟨callB_of 2 hts (gTB q_R_refuseSame) rfl rfl rfl (htb _ q1) (htb _ q524) hd_R_refuseSame ⟨Nat.le_of_ble_eq_true rfl, Nat.le_of_ble_eq_true rfl⟩, (htb _ q525)⟩ ⟨tx_blind, fun U hU hW => ⟨rfl, hN.warm hW, tx_keep hX hPs (by rw [hAe]; exact hS) U hU hW⟩⟩ rfl rfl hl.1 rfl (lv_room (Nat.le_of_ble_eq_true rfl)) d_R_swap_12 ⟨Nat.le_of_ble_eq_true rfl, Nat.le_of_ble_eq_true rfl⟩) (no_handlers X B.named (hts _ List.mem_cons_self) _) hS.2.2 (fun _ h => h.elim) hlocks (fun v st t U h0 hw hq hU hW => tqw_at hP h0 hS.1 hw hq hU) T hT X
set_option maxHeartbeats 4000000 in
set_option maxRecDepth 100000 in
theorem t_R_swap_1d (l : Launch) (htr : l.stackTraces = false) (D : va_G) (ad : Nat → Nat) (ca : Nat → ClassId) (P S G : Nat → Nat → Nat) (hP0 : okP P) (hS0 : okS S) (hG0 : okG G) (p1 p2 : Nat) (d : Int32) (h_p1 : p1 < P 0 0) (h_p2 : p2 < P 0 0) (hbad : inR d (P 0 1) = false) (hne : p1 ≠ p2) (sz : Nat) : MetT l y_R_swap w_R_swap { frames := 8, cells := 1, slots := 6, locals := 180 } (tw_P [.ref (ad 0), .int (nI p1), .int (nI p2), .int d] D (wR ad ca P S G) (tR ca) sz) (tqw "java/lang/IllegalArgumentException" D (wR ad ca P S G)) 1 6 (va_A (wR ad ca P S G) sz) := by
  refine MetT.ofW (cc := b_R_swap) (maxL := 4) (ret := none) (by decide) rfl ?_
  intro p e s m args below meth c s₁ B hml hv
  obtain ⟨rfl, hsz, hN, hX, hP, hK, hD0⟩ := hv
  have hx := B.exec
  have hb := B.bytes
  have hts := atoms_spec (ws := w_R_swap) B.pre
  have htb : ∀ w ∈ TBG, w.before [.ref (ad 0), .int (nI p1), .int (nI p2), .int d].toArray s = true := fun w h => hts w (List.mem_cons_of_mem _ h)
  have hown : s.vm.findClass R_R = some m.cls := findClass_of_methodNamed B.named
  have hlocks := B.notSynchronized
  subst hsz
  have hD := hD0.self (sz := s.heap.size)
  have hPs := hP
  generalize hAe : va_A (wR ad ca P S G) s.heap.size = A at hD ⊢
  have hA : ∀ q : Nat, s.heap.size ≤ q → A q := fun q h => by rw [← hAe]; exact Or.inr h
  have hS : va_S A s.heap s.heap [] := va_S.rf
  have hl := lv_entry ([.ref (ad 0), .int (nI p1), .int (nI p2), .int d]) (n := 4) (Nat.le_of_ble_eq_true rfl)
  rw [lg_entry_eq]
  generalize (lg_sl ([.ref (ad 0), .int (nI p1), .int (nI p2), .int d]) ++ List.replicate (4 - (lg_sl ([.ref (ad 0), .int (nI p1), .int (nI p2), .int d])).length) Slot.unset).toArray = ls at hl ⊢
  have hl : lv_has ls 4 [(0, .ref (ad 0)), (1, .int (nI p1)), (2, .int (nI p2)), (3, .int d)] := hl
  refine nr_start hP hS (fun H locs hP hS => ?_)
  obtain ⟨h00, h01, h02, h03, h04, h05, hp1, hp2, hp3, hp4, hp5, hp6⟩ := id hP0
  obtain ⟨g00, g01, g02, g03, g04, g05, g06, hs1, hs2, hs3, hs4, hs5, hs6, hs7⟩ := id hS0
  obtain ⟨k00, k01, hg1, hg2⟩ := id hG0
  refine lv_aload_n hx hb d_R_swap_0 rfl (lv_at hl 0 rfl) ?_
  refine lv_iload_n hx hb d_R_swap_1 rfl (lv_at hl 1 rfl) ?_
  refine nr_callv (wr := ([] : va_W)) (va_runV (As := [.int (nI p1)]) (rest := []) ⟨hx, hb, hml, hown, hts⟩ (r_R_refuseUnknownPerson l D ad ca P S G hP0 hS0 hG0 p1 (by omega) H.size) ⟨callB_of 1 hts (gTB q_R_refuseUnknownPerson) rfl rfl rfl (htb _ q1) (htb _ q409) hd_R_refuseUnknownPerson ⟨Nat.le_of_ble_eq_true rfl, Nat.le_of_ble_eq_true rfl⟩, (htb _ q411), (htb _ sel_R_refuseUnknownPerson)⟩ ⟨rw_blind, va_recv (hK.sub (tys' := []) [] rfl) hP (ci := 2) (q0 := 15) rfl rfl, rw_pre hN (hP.sub (ws' := (wR ad ca P S G)) [0, 1, 2, 3, 4, 5, 6, 7, 8, 9, 10, 11, 12, 13, 14, 15, 16, 17] rfl) (hK.sub (tys' := (tR ca)) [0, 1, 2, 3, 4, 5, 6, 7, 8, 9, 10, 11, 12, 13, 14] rfl) (hD.sub (ws' := (wR ad ca P S G)) [0, 1, 2, 3, 4, 5, 6, 7, 8, 9, 10, 11, 12, 13, 14, 15, 16, 17] (by decide) rfl)⟩ rfl rfl hl.1 rfl (lv_room (Nat.le_of_ble_eq_true rfl)) d_R_swap_2 ⟨Nat.le_of_ble_eq_true rfl, Nat.le_of_ble_eq_true rfl⟩) hP hD hS hA [0, 1, 2, 3, 4, 5, 6, 7, 8, 9, 10, 11, 12, 13, 14, 15, 16, 17] [] rfl rfl (by decide) (by decide) (fun u_1 H locs hu_1 hP hD hS => ?_)
  replace hP := hP.sub (ws' := wR ad ca P S G) [0, 1, 2, 3, 4, 5, 6, 7, 8, 9, 10, 11, 12, 13, 14, 15, 16, 17] rfl
  replace hD := hD.sub (ws' := wR ad ca P S G) [0, 1, 2, 3, 4, 5, 6, 7, 8, 9, 10, 11, 12, 13, 14, 15, 16, 17] (by decide) rfl
  refine lv_aload_n hx hb d_R_swap_5 rfl (lv_at hl 0 rfl) ?_
  refine lv_iload_n hx hb d_R_swap_6 rfl (lv_at hl 2 rfl) ?_
  refine nr_callv (wr := ([] : va_W)) (va_runV (As := [.int (nI p2)]) (rest := []) ⟨hx, hb, hml, hown, hts⟩ (r_R_refuseUnknownPerson l D ad ca P S G hP0 hS0 hG0 p2 (by omega) H.size) ⟨callB_of 1 hts (gTB q_R_refuseUnknownPerson) rfl rfl rfl (htb _ q1) (htb _ q409) hd_R_refuseUnknownPerson ⟨Nat.le_of_ble_eq_true rfl, Nat.le_of_ble_eq_true rfl⟩, (htb _ q411), (htb _ sel_R_refuseUnknownPerson)⟩ ⟨rw_blind, va_recv (hK.sub (tys' := []) [] rfl) hP (ci := 2) (q0 := 15) rfl rfl, rw_pre hN (hP.sub (ws' := (wR ad ca P S G)) [0, 1, 2, 3, 4, 5, 6, 7, 8, 9, 10, 11, 12, 13, 14, 15, 16, 17] rfl) (hK.sub (tys' := (tR ca)) [0, 1, 2, 3, 4, 5, 6, 7, 8, 9, 10, 11, 12, 13, 14] rfl) (hD.sub (ws' := (wR ad ca P S G)) [0, 1, 2, 3, 4, 5, 6, 7, 8, 9, 10, 11, 12, 13, 14, 15, 16, 17] (by decide) rfl)⟩ rfl rfl hl.1 rfl (lv_room (Nat.le_of_ble_eq_true rfl)) d_R_swap_7 ⟨Nat.le_of_ble_eq_true rfl, Nat.le_of_ble_eq_true rfl⟩) hP hD hS hA [0, 1, 2, 3, 4, 5, 6, 7, 8, 9, 10, 11, 12, 13, 14, 15, 16, 17] [] rfl rfl (by decide) (by decide) (fun u_2 H locs hu_2 hP hD hS => ?_)
  replace hP := hP.sub (ws' := wR ad ca P S G) [0, 1, 2, 3, 4, 5, 6, 7, 8, 9, 10, 11, 12, 13, 14, 15, 16, 17] rfl
  replace hD := hD.sub (ws' := wR ad ca P S G) [0, 1, 2, 3, 4, 5, 6, 7, 8, 9, 10, 11, 12, 13, 14, 15, 16, 17] (by decide) rfl
  refine lv_iload_n hx hb d_R_swap_10 rfl (lv_at hl 1 rfl) ?_
  refine lv_iload_n hx hb d_R_swap_11 rfl (lv_at hl 2 rfl) ?_
  refine nr_callv (wr := ([0, 1, 2, 3, 4, 5, 6, 7, 8, 9, 10, 11, 12, 13, 14, 15, 16, 17] : List Nat).filterMap (fun i => (wR ad ca P S G : va_W)[i]?)) (va_runS (As := [.int (nI p1), .int (nI p2)]) (rest := []) ⟨hx, hb, hml, hown, hts⟩ (r_R_refuseSame l D p1 p2 (by omega) (by omega) (by omega) H.size) ⟨callB_of 2 hts (gTB q_R_refuseSame) rfl rfl rfl (htb _ q1) (htb _ q524) hd_R_refuseSame ⟨Nat.le_of_ble_eq_true rfl, Nat.le_of_ble_eq_true rfl⟩, (htb _ q525)⟩ ⟨rw_blind, rw_pre hN (hP.sub (ws' := []) [] rfl) (hK.sub (tys' := []) [] rfl) (hD.sub (ws' := []) [] (by decide) rfl)⟩ rfl rfl hl.1 rfl (lv_room (Nat.le_of_ble_eq_true rfl)) d_R_swap_12 ⟨Nat.le_of_ble_eq_true rfl, Nat.le_of_ble_eq_true rfl⟩) hP hD hS hA [] [0, 1, 2, 3, 4, 5, 6, 7, 8, 9, 10, 11, 12, 13, 14, 15, 16, 17] rfl rfl (by decide) (by decide) (fun u_3 H locs hu_3 hP hD hS => ?_)
  replace hP := hP.sub (ws' := wR ad ca P S G) [0, 1, 2, 3, 4, 5, 6, 7, 8, 9, 10, 11, 12, 13, 14, 15, 16, 17] rfl
  replace hD := hD.sub (ws' := wR ad ca P S G) [0, 1, 2, 3, 4, 5, 6, 7, 8, 9, 10, 11, 12, 13, 14, 15, 16, 17] (by decide) rfl
  refine lv_aload_n hx hb d_R_swap_15 rfl (lv_at hl 0 rfl) ?_
  refine lv_iload_n hx hb d_R_swap_16 rfl (lv_at hl 3 rfl) ?_
  intro T hT X
  exact nr_out (nr_runVT (As := [.int d]) (rest := []) ⟨hx, hb, hml, hown, hts⟩ (t_R_refuseUnknownDay l htr D ad ca P S G hP0 hS0 hG0 d hbad H.size) ⟨callB_of 1 hts (gTB q_R_refuseUnknownDay) rfl rfl rfl (htb _ q1) (htb _ q364) hd_R_refuseUnknownDay ⟨Nat.le_of_ble_eq_true rfl, Nat.le_of_ble_eq_true rfl⟩, (htb _ q366), (htb _ sel_R_refuseUnknownDay)⟩ ⟨tw_blind, va_recv (hK.sub (tys' := []) [] rfl) hP (ci := 2) (q0 := 15) rfl rfl, fun U hU hW => ⟨rfl, by rw [hU], hN.warm hW, tx_keep hX hPs (by rw [hAe]; exact hS) U hU hW, by rw [hU]; exact hP, va_K.moved hW.alike hK, hD.weaken (fun _ _ _ _ => trivial)⟩⟩ rfl rfl hl.1 rfl (lv_room (Nat.le_of_ble_eq_true rfl)) d_R_swap_17 ⟨Nat.le_of_ble_eq_true rfl, Nat.le_of_ble_eq_true rfl⟩) (no_handlers X B.named (hts _ List.mem_cons_self) _) hS.2.2 (va_free (wc := (wR ad ca P S G)) hD hS hA [0, 1, 2, 3, 4, 5, 6, 7, 8, 9, 10, 11, 12, 13, 14, 15, 16, 17] rfl) hlocks (fun v st t U h0 hw hq hU hW => tqw_up h0 hS.1 hw hq hU) T hT X
set_option maxHeartbeats 4000000 in
set_option maxRecDepth 100000 in
theorem t_R_swap_2a (l : Launch) (htr : l.stackTraces = false) (D : va_G) (ad : Nat → Nat) (ca : Nat → ClassId) (P S G : Nat → Nat → Nat) (hP0 : okP P) (hS0 : okS S) (hG0 : okG G) (p1 p2 d : Nat) (h_p1 : p1 < P 0 0) (h_p2 : p2 < P 0 0) (h_d : d < P 0 1) (hne : p1 ≠ p2) (hfz : d < G 0 0) (sz : Nat) : MetT l y_R_swap w_R_swap { frames := 8, cells := 1, slots := 6, locals := 180 } (tw_P [.ref (ad 0), .int (nI p1), .int (nI p2), .int (nI d)] D (wR ad ca P S G) (tR ca) sz) (tqw "java/lang/IllegalStateException" D (wR ad ca P S G)) 1 6 (va_A (wR ad ca P S G) sz) := by
  refine MetT.ofW (cc := b_R_swap) (maxL := 4) (ret := none) (by decide) rfl ?_
  intro p e s m args below meth c s₁ B hml hv
  obtain ⟨rfl, hsz, hN, hX, hP, hK, hD0⟩ := hv
  have hx := B.exec
  have hb := B.bytes
  have hts := atoms_spec (ws := w_R_swap) B.pre
  have htb : ∀ w ∈ TBG, w.before [.ref (ad 0), .int (nI p1), .int (nI p2), .int (nI d)].toArray s = true := fun w h => hts w (List.mem_cons_of_mem _ h)
  have hown : s.vm.findClass R_R = some m.cls := findClass_of_methodNamed B.named
  have hlocks := B.notSynchronized
  subst hsz
  have hD := hD0.self (sz := s.heap.size)
  have hPs := hP
  generalize hAe : va_A (wR ad ca P S G) s.heap.size = A at hD ⊢
  have hA : ∀ q : Nat, s.heap.size ≤ q → A q := fun q h => by rw [← hAe]; exact Or.inr h
  have hS : va_S A s.heap s.heap [] := va_S.rf
  have hl := lv_entry ([.ref (ad 0), .int (nI p1), .int (nI p2), .int (nI d)]) (n := 4) (Nat.le_of_ble_eq_true rfl)
  rw [lg_entry_eq]
  generalize (lg_sl ([.ref (ad 0), .int (nI p1), .int (nI p2), .int (nI d)]) ++ List.replicate (4 - (lg_sl ([.ref (ad 0), .int (nI p1), .int (nI p2), .int (nI d)])).length) Slot.unset).toArray = ls at hl ⊢
  have hl : lv_has ls 4 [(0, .ref (ad 0)), (1, .int (nI p1)), (2, .int (nI p2)), (3, .int (nI d))] := hl
  refine nr_start hP hS (fun H locs hP hS => ?_)
  obtain ⟨h00, h01, h02, h03, h04, h05, hp1, hp2, hp3, hp4, hp5, hp6⟩ := id hP0
  obtain ⟨g00, g01, g02, g03, g04, g05, g06, hs1, hs2, hs3, hs4, hs5, hs6, hs7⟩ := id hS0
  obtain ⟨k00, k01, hg1, hg2⟩ := id hG0
  refine lv_aload_n hx hb d_R_swap_0 rfl (lv_at hl 0 rfl) ?_
  refine lv_iload_n hx hb d_R_swap_1 rfl (lv_at hl 1 rfl) ?_
  refine nr_callv (wr := ([] : va_W)) (va_runV (As := [.int (nI p1)]) (rest := []) ⟨hx, hb, hml, hown, hts⟩ (r_R_refuseUnknownPerson l D ad ca P S G hP0 hS0 hG0 p1 (by omega) H.size) ⟨callB_of 1 hts (gTB q_R_refuseUnknownPerson) rfl rfl rfl (htb _ q1) (htb _ q409) hd_R_refuseUnknownPerson ⟨Nat.le_of_ble_eq_true rfl, Nat.le_of_ble_eq_true rfl⟩, (htb _ q411), (htb _ sel_R_refuseUnknownPerson)⟩ ⟨rw_blind, va_recv (hK.sub (tys' := []) [] rfl) hP (ci := 2) (q0 := 15) rfl rfl, rw_pre hN (hP.sub (ws' := (wR ad ca P S G)) [0, 1, 2, 3, 4, 5, 6, 7, 8, 9, 10, 11, 12, 13, 14, 15, 16, 17] rfl) (hK.sub (tys' := (tR ca)) [0, 1, 2, 3, 4, 5, 6, 7, 8, 9, 10, 11, 12, 13, 14] rfl) (hD.sub (ws' := (wR ad ca P S G)) [0, 1, 2, 3, 4, 5, 6, 7, 8, 9, 10, 11, 12, 13, 14, 15, 16, 17] (by decide) rfl)⟩ rfl rfl hl.1 rfl (lv_room (Nat.le_of_ble_eq_true rfl)) d_R_swap_2 ⟨Nat.le_of_ble_eq_true rfl, Nat.le_of_ble_eq_true rfl⟩) hP hD hS hA [0, 1, 2, 3, 4, 5, 6, 7, 8, 9, 10, 11, 12, 13, 14, 15, 16, 17] [] rfl rfl (by decide) (by decide) (fun u_1 H locs hu_1 hP hD hS => ?_)
  replace hP := hP.sub (ws' := wR ad ca P S G) [0, 1, 2, 3, 4, 5, 6, 7, 8, 9, 10, 11, 12, 13, 14, 15, 16, 17] rfl
  replace hD := hD.sub (ws' := wR ad ca P S G) [0, 1, 2, 3, 4, 5, 6, 7, 8, 9, 10, 11, 12, 13, 14, 15, 16, 17] (by decide) rfl
  refine lv_aload_n hx hb d_R_swap_5 rfl (lv_at hl 0 rfl) ?_
  refine lv_iload_n hx hb d_R_swap_6 rfl (lv_at hl 2 rfl) ?_
  refine nr_callv (wr := ([] : va_W)) (va_runV (As := [.int (nI p2)]) (rest := []) ⟨hx, hb, hml, hown, hts⟩ (r_R_refuseUnknownPerson l D ad ca P S G hP0 hS0 hG0 p2 (by omega) H.size) ⟨callB_of 1 hts (gTB q_R_refuseUnknownPerson) rfl rfl rfl (htb _ q1) (htb _ q409) hd_R_refuseUnknownPerson ⟨Nat.le_of_ble_eq_true rfl, Nat.le_of_ble_eq_true rfl⟩, (htb _ q411), (htb _ sel_R_refuseUnknownPerson)⟩ ⟨rw_blind, va_recv (hK.sub (tys' := []) [] rfl) hP (ci := 2) (q0 := 15) rfl rfl, rw_pre hN (hP.sub (ws' := (wR ad ca P S G)) [0, 1, 2, 3, 4, 5, 6, 7, 8, 9, 10, 11, 12, 13, 14, 15, 16, 17] rfl) (hK.sub (tys' := (tR ca)) [0, 1, 2, 3, 4, 5, 6, 7, 8, 9, 10, 11, 12, 13, 14] rfl) (hD.sub (ws' := (wR ad ca P S G)) [0, 1, 2, 3, 4, 5, 6, 7, 8, 9, 10, 11, 12, 13, 14, 15, 16, 17] (by decide) rfl)⟩ rfl rfl hl.1 rfl (lv_room (Nat.le_of_ble_eq_true rfl)) d_R_swap_7 ⟨Nat.le_of_ble_eq_true rfl, Nat.le_of_ble_eq_true rfl⟩) hP hD hS hA [0, 1, 2, 3, 4, 5, 6, 7, 8, 9, 10, 11, 12, 13, 14, 15, 16, 17] [] rfl rfl (by decide) (by decide) (fun u_2 H locs hu_2 hP hD hS => ?_)
  replace hP := hP.sub (ws' := wR ad ca P S G) [0, 1, 2, 3, 4, 5, 6, 7, 8, 9, 10, 11, 12, 13, 14, 15, 16, 17] rfl
  replace hD := hD.sub (ws' := wR ad ca P S G) [0, 1, 2, 3, 4, 5, 6, 7, 8, 9, 10, 11, 12, 13, 14, 15, 16, 17] (by decide) rfl
  refine lv_iload_n hx hb d_R_swap_10 rfl (lv_at hl 1 rfl) ?_
  refine lv_iload_n hx hb d_R_swap_11 rfl (lv_at hl 2 rfl) ?_
  refine nr_callv (wr := ([0, 1, 2, 3, 4, 5, 6, 7, 8, 9, 10, 11, 12, 13, 14, 15, 16, 17] : List Nat).filterMap (fun i => (wR ad ca P S G : va_W)[i]?)) (va_runS (As := [.int (nI p1), .int (nI p2)]) (rest := []) ⟨hx, hb, hml, hown, hts⟩ (r_R_refuseSame l D p1 p2 (by omega) (by omega) (by omega) H.size) ⟨callB_of 2 hts (gTB q_R_refuseSame) rfl rfl rfl (htb _ q1) (htb _ q524) hd_R_refuseSame ⟨Nat.le_of_ble_eq_true rfl, Nat.le_of_ble_eq_true rfl⟩, (htb _ q525)⟩ ⟨rw_blind, rw_pre hN (hP.sub (ws' := []) [] rfl) (hK.sub (tys' := []) [] rfl) (hD.sub (ws' := []) [] (by decide) rfl)⟩ rfl rfl hl.1 rfl (lv_room (Nat.le_of_ble_eq_true rfl)) d_R_swap_12 ⟨Nat.le_of_ble_eq_true rfl, Nat.le_of_ble_eq_true rfl⟩) hP hD hS hA [] [0, 1, 2, 3, 4, 5, 6, 7, 8, 9, 10, 11, 12, 13, 14, 15, 16, 17] rfl rfl (by decide) (by decide) (fun u_3 H locs hu_3 hP hD hS => ?_)
  replace hP := hP.sub (ws' := wR ad ca P S G) [0, 1, 2, 3, 4, 5, 6, 7, 8, 9, 10, 11, 12, 13, 14, 15, 16, 17] rfl
  replace hD := hD.sub (ws' := wR ad ca P S G) [0, 1, 2, 3, 4, 5, 6, 7, 8, 9, 10, 11, 12, 13, 14, 15, 16, 17] (by decide) rfl
  refine lv_aload_n hx hb d_R_swap_15 rfl (lv_at hl 0 rfl) ?_
  refine lv_iload_n hx hb d_R_swap_16 rfl (lv_at hl 3 rfl) ?_
  refine nr_callv (wr := ([] : va_W)) (va_runV (As := [.int (nI d)]) (rest := []) ⟨hx, hb, hml, hown, hts⟩ (r_R_refuseUnknownDay l D ad ca P S G hP0 hS0 hG0 d (by omega) H.size) ⟨callB_of 1 hts (gTB q_R_refuseUnknownDay) rfl rfl rfl (htb _ q1) (htb _ q364) hd_R_refuseUnknownDay ⟨Nat.le_of_ble_eq_true rfl, Nat.le_of_ble_eq_true rfl⟩, (htb _ q366), (htb _ sel_R_refuseUnknownDay)⟩ ⟨rw_blind, va_recv (hK.sub (tys' := []) [] rfl) hP (ci := 2) (q0 := 15) rfl rfl, rw_pre hN (hP.sub (ws' := (wR ad ca P S G)) [0, 1, 2, 3, 4, 5, 6, 7, 8, 9, 10, 11, 12, 13, 14, 15, 16, 17] rfl) (hK.sub (tys' := (tR ca)) [0, 1, 2, 3, 4, 5, 6, 7, 8, 9, 10, 11, 12, 13, 14] rfl) (hD.sub (ws' := (wR ad ca P S G)) [0, 1, 2, 3, 4, 5, 6, 7, 8, 9, 10, 11, 12, 13, 14, 15, 16, 17] (by decide) rfl)⟩ rfl rfl hl.1 rfl (lv_room (Nat.le_of_ble_eq_true rfl)) d_R_swap_17 ⟨Nat.le_of_ble_eq_true rfl, Nat.le_of_ble_eq_true rfl⟩) hP hD hS hA [0, 1, 2, 3, 4, 5, 6, 7, 8, 9, 10, 11, 12, 13, 14, 15, 16, 17] [] rfl rfl (by decide) (by decide) (fun u_4 H locs hu_4 hP hD hS => ?_)
  replace hP := hP.sub (ws' := wR ad ca P S G) [0, 1, 2, 3, 4, 5, 6, 7, 8, 9, 10, 11, 12, 13, 14, 15, 16, 17] rfl
  replace hD := hD.sub (ws' := wR ad ca P S G) [0, 1, 2, 3, 4, 5, 6, 7, 8, 9, 10, 11, 12, 13, 14, 15, 16, 17] (by decide) rfl
  refine lv_aload_n hx hb d_R_swap_20 rfl (lv_at hl 0 rfl) ?_
  refine lv_iload_n hx hb d_R_swap_21 rfl (lv_at hl 3 rfl) ?_
  intro T hT X
  exact nr_out (nr_runVT (As := [.int (nI d)]) (rest := []) ⟨hx, hb, hml, hown, hts⟩ (t_R_refuseFrozen l htr D ad ca P S G hP0 hS0 hG0 d (by omega) hfz H.size) ⟨callB_of 1 hts (gTB q_R_refuseFrozen) rfl rfl rfl (htb _ q1) (htb _ q422) hd_R_refuseFrozen ⟨Nat.le_of_ble_eq_true rfl, Nat.le_of_ble_eq_true rfl⟩, (htb _ q424), (htb _ sel_R_refuseFrozen)⟩ ⟨tw_blind, va_recv (hK.sub (tys' := []) [] rfl) hP (ci := 2) (q0 := 15) rfl rfl, fun U hU hW => ⟨rfl, by rw [hU], hN.warm hW, tx_keep hX hPs (by rw [hAe]; exact hS) U hU hW, by rw [hU]; exact hP, va_K.moved hW.alike hK, hD.weaken (fun _ _ _ _ => trivial)⟩⟩ rfl rfl hl.1 rfl (lv_room (Nat.le_of_ble_eq_true rfl)) d_R_swap_22 ⟨Nat.le_of_ble_eq_true rfl, Nat.le_of_ble_eq_true rfl⟩) (no_handlers X B.named (hts _ List.mem_cons_self) _) hS.2.2 (va_free (wc := (wR ad ca P S G)) hD hS hA [0, 1, 2, 3, 4, 5, 6, 7, 8, 9, 10, 11, 12, 13, 14, 15, 16, 17] rfl) hlocks (fun v st t U h0 hw hq hU hW => tqw_up h0 hS.1 hw hq hU) T hT X

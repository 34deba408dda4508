set_option maxHeartbeats 4000000 in
set_option maxRecDepth 100000 in
theorem j_M_days_1 (l : Launch) (D : va_G) (am : Nat → Nat) (cm : Nat → ClassId) (P G X : Nat → Nat → Nat) (hP0 : okP P) (hG0 : okG G) (hX0 : okX X) (x : Int32) (hbad : decide (nI 0 ≤ x ∧ x ≤ nI 7) = false) (sz : Nat) : Met l y_M_days w_M_days { frames := 1, cells := 0, slots := 0, locals := 24 } (rw_P [.ref (am 0), .int x] D (wM am cm P G X) (tM cm) sz) (rw_Qv (fun u : Unit => True) D (wM am cm P G X) (fun u => wM am cm P G (up2 X 0 0 1)) sz) 0 0 (va_A (wM am cm P G X) sz) := by
  refine Met.ofW (cc := b_M_days) (maxL := 3) (ret := none) (by decide) rfl ?_
  intro p e s m args below meth c s₁ B hml hv
  obtain ⟨rfl, hsz, hN, hP, hK, hD0⟩ := hv
  have hx := B.exec
  have hb := B.bytes
  have hr := B.returns
  have hts := atoms_spec (ws := w_M_days) B.pre
  have htb : ∀ w ∈ TBG, w.before [.ref (am 0), .int x].toArray s = true := fun w h => hts w (List.mem_cons_of_mem _ h)
  have hown : s.vm.findClass R_M = some m.cls := findClass_of_methodNamed B.named
  have hlocks := B.notSynchronized
  subst hsz
  have hD := hD0.self (sz := s.heap.size)
  unfold rw_Qv
  generalize hAe : va_A (wM am cm P G X) s.heap.size = A at hD ⊢
  have hA : ∀ q : Nat, s.heap.size ≤ q → A q := fun q h => by rw [← hAe]; exact Or.inr h
  have hS : va_S A s.heap s.heap [] := va_S.rf
  have hl := lv_entry ([.ref (am 0), .int x]) (n := 3) (Nat.le_of_ble_eq_true rfl)
  rw [lg_entry_eq]
  generalize (lg_sl ([.ref (am 0), .int x]) ++ List.replicate (3 - (lg_sl ([.ref (am 0), .int x])).length) Slot.unset).toArray = ls at hl ⊢
  have hl : lv_has ls 3 [(0, .ref (am 0)), (1, .int x)] := hl
  refine nr_start hP hS (fun H locs hP hS => ?_)
  obtain ⟨h00, h01, h02, h03, h04, h05, hp1, hp2, hp3, hp4, hp5, hp6⟩ := id hP0
  obtain ⟨k00, k01, hg1, hg2⟩ := id hG0
  obtain ⟨x00, x01, x02, x03, hx1, hx2, hx3, hx4, hx5, hx6, hx7⟩ := id hX0
  refine lv_aload_n hx hb d_M_days_0 rfl (lv_at hl 0 rfl) ?_
  refine lv_iload_n hx hb d_M_days_1 rfl (lv_at hl 1 rfl) ?_
  refine nr_iconst hx hb 0 d_M_days_2 (by decide) ?_
  refine nr_bipush hx hb 7 d_M_days_3 (by decide) ?_
  refine nr_calli (va_runS (As := [.int x, .int (nI 0), .int (nI 7)]) (rest := [.ref (am 0)]) ⟨hx, hb, hml, hown, hts⟩ (c_M_in l D x (nI 0) (nI 7)) ⟨callB_of 3 hts (gTB q_M_in) rfl rfl rfl (htb _ q4) (htb _ q666) hd_M_in ⟨Nat.le_of_ble_eq_true rfl, Nat.le_of_ble_eq_true rfl⟩, (htb _ q667)⟩ ⟨ro_blind, ro_pre hN (hP.sub (ws' := []) [] rfl) (hK.sub (tys' := []) [] rfl)⟩ rfl rfl hl.1 rfl (lv_room (Nat.le_of_ble_eq_true rfl)) d_M_days_5 ⟨Nat.le_of_ble_eq_true rfl, Nat.le_of_ble_eq_true rfl⟩) (fun r_1 hr_1 => ?_)
  subst hr_1
  refine nr_top (y := nI 0) (by rw [hbad]; rfl) ?_
  refine nr_if_ne (tgt := 15) hx hb (by omega) d_M_days_8 (by decide) (fun c_8 => by exfalso; omega) (fun c_8 => ?_)
  refine nr_iconst hx hb 1 d_M_days_11 (by decide) ?_
  refine lv_goto (tgt := 16) hx hb d_M_days_12 (by decide) ?_
  refine nr_iconst hx hb 0 d_M_days_16 (by decide) ?_
  refine nr_iconst hx hb 0 d_M_days_17 (by decide) ?_
  refine nr_iconst hx hb 0 d_M_days_18 (by decide) ?_
  refine nr_callwi (wr := ([] : va_W)) (va_runV (As := [.int (nI 1), .int (nI 0), .int (nI 0), .int (nI 0)]) (rest := []) ⟨hx, hb, hml, hown, hts⟩ (c_M_throwing l D am cm P G X 1 0 0 0 (by decide) (by decide) (by decide) (by decide) H.size) ⟨callB_of 4 hts (gTB q_M_throwing) rfl rfl rfl (htb _ q4) (htb _ q669) hd_M_throwing ⟨Nat.le_of_ble_eq_true rfl, Nat.le_of_ble_eq_true rfl⟩, (htb _ q671), (htb _ sel_M_throwing)⟩ ⟨rw_blind, va_recv (hK.sub (tys' := []) [] rfl) hP (ci := 3) (q0 := 0) rfl rfl, rw_pre hN (hP.sub (ws' := (wM am cm P G X)) [0, 1, 2, 3, 4, 5, 6, 7, 8, 9, 10, 11, 12, 13, 14] rfl) (hK.sub (tys' := (tM cm)) [0, 1, 2, 3, 4, 5, 6, 7, 8, 9, 10, 11, 12, 13] rfl) (hD.sub (ws' := (wM am cm P G X)) [0, 1, 2, 3, 4, 5, 6, 7, 8, 9, 10, 11, 12, 13, 14] (by decide) rfl)⟩ rfl rfl hl.1 rfl (lv_room (Nat.le_of_ble_eq_true rfl)) d_M_days_19 ⟨Nat.le_of_ble_eq_true rfl, Nat.le_of_ble_eq_true rfl⟩) hP hD hS hA [0, 1, 2, 3, 4, 5, 6, 7, 8, 9, 10, 11, 12, 13, 14] [] rfl rfl (by decide) (by decide) (fun r_2 u_2 H locs hr_2 hP hD hS => ?_)
  subst hr_2
  replace hP := hP.sub (ws' := wM am cm P G (up2 X 0 0 1)) [0, 1, 2, 3, 4, 5, 6, 7, 8, 9, 10, 11, 12, 13, 14] rfl
  replace hD := hD.sub (ws' := wM am cm P G (up2 X 0 0 1)) [0, 1, 2, 3, 4, 5, 6, 7, 8, 9, 10, 11, 12, 13, 14] (by decide) rfl
  refine nr_top (y := nI 1) rfl ?_
  refine nr_if_eq (tgt := 26) hx hb (by omega) d_M_days_22 (by decide) (fun c_22 => by exfalso; omega) (fun c_22 => ?_)
  exact W.vret hx hb hr (fun t ht hW => ⟨⟨(), rfl, trivial, by rw [ht]; exact hP, hD⟩, hS.F ht⟩) hS.2.2 d_M_days_25
set_option maxHeartbeats 4000000 in
set_option maxRecDepth 100000 in
theorem j_M_person_1a (l : Launch) (D : va_G) (am : Nat → Nat) (cm : Nat → ClassId) (P G X : Nat → Nat → Nat) (hP0 : okP P) (hG0 : okG G) (hX0 : okX X) (x y : Int32) (hbad : decide (nI 0 ≤ x ∧ x ≤ nI 15) = false) (sz : Nat) : Met l y_M_person w_M_person { frames := 1, cells := 0, slots := 0, locals := 24 } (rw_P [.ref (am 0), .int x, .int y] D (wM am cm P G X) (tM cm) sz) (rw_Qi (fun (r : Int32) (u : Unit) => r = nI 0) D (wM am cm P G X) (fun u => wM am cm P G (up2 X 0 0 1)) sz) 0 0 (va_A (wM am cm P G X) sz) := by
  refine Met.ofW (cc := b_M_person) (maxL := 3) (ret := (some .int)) (by decide) rfl ?_
  intro p e s m args below meth c s₁ B hml hv
  obtain ⟨rfl, hsz, hN, hP, hK, hD0⟩ := hv
  have hx := B.exec
  have hb := B.bytes
  have hr := B.returns
  have hts := atoms_spec (ws := w_M_person) B.pre
  have htb : ∀ w ∈ TBG, w.before [.ref (am 0), .int x, .int y].toArray s = true := fun w h => hts w (List.mem_cons_of_mem _ h)
  have hown : s.vm.findClass R_M = some m.cls := findClass_of_methodNamed B.named
  have hlocks := B.notSynchronized
  subst hsz
  have hD := hD0.self (sz := s.heap.size)
  unfold rw_Qi
  generalize hAe : va_A (wM am cm P G X) s.heap.size = A at hD ⊢
  have hA : ∀ q : Nat, s.heap.size ≤ q → A q := fun q h => by rw [← hAe]; exact Or.inr h
  have hS : va_S A s.heap s.heap [] := va_S.rf
  have hl := lv_entry ([.ref (am 0), .int x, .int y]) (n := 3) (Nat.le_of_ble_eq_true rfl)
  rw [lg_entry_eq]
  generalize (lg_sl ([.ref (am 0), .int x, .int y]) ++ List.replicate (3 - (lg_sl ([.ref (am 0), .int x, .int y])).length) Slot.unset).toArray = ls at hl ⊢
  have hl : lv_has ls 3 [(0, .ref (am 0)), (1, .int x), (2, .int y)] := hl
  refine nr_start hP hS (fun H locs hP hS => ?_)
  obtain ⟨h00, h01, h02, h03, h04, h05, hp1, hp2, hp3, hp4, hp5, hp6⟩ := id hP0
  obtain ⟨k00, k01, hg1, hg2⟩ := id hG0
  obtain ⟨x00, x01, x02, x03, hx1, hx2, hx3, hx4, hx5, hx6, hx7⟩ := id hX0
  refine lv_aload_n hx hb d_M_person_0 rfl (lv_at hl 0 rfl) ?_
  refine lv_iload_n hx hb d_M_person_1 rfl (lv_at hl 1 rfl) ?_
  refine nr_iconst hx hb 0 d_M_person_2 (by decide) ?_
  refine nr_bipush hx hb 15 d_M_person_3 (by decide) ?_
  refine nr_calli (va_runS (As := [.int x, .int (nI 0), .int (nI 15)]) (rest := [.ref (am 0)]) ⟨hx, hb, hml, hown, hts⟩ (c_M_in l D x (nI 0) (nI 15)) ⟨callB_of 3 hts (gTB q_M_in) rfl rfl rfl (htb _ q4) (htb _ q666) hd_M_in ⟨Nat.le_of_ble_eq_true rfl, Nat.le_of_ble_eq_true rfl⟩, (htb _ q667)⟩ ⟨ro_blind, ro_pre hN (hP.sub (ws' := []) [] rfl) (hK.sub (tys' := []) [] rfl)⟩ rfl rfl hl.1 rfl (lv_room (Nat.le_of_ble_eq_true rfl)) d_M_person_5 ⟨Nat.le_of_ble_eq_true rfl, Nat.le_of_ble_eq_true rfl⟩) (fun r_1 hr_1 => ?_)
  subst hr_1
  refine nr_top (y := nI 0) (by rw [hbad]; rfl) ?_
  refine nr_if_eq (tgt := 22) hx hb (by omega) d_M_person_8 (by decide) (fun c_8 => ?_) (fun c_8 => by exfalso; omega)
  refine nr_iconst hx hb 1 d_M_person_22 (by decide) ?_
  refine lv_goto (tgt := 27) hx hb d_M_person_23 (by decide) ?_
  refine lv_aload_n hx hb d_M_person_27 rfl (lv_at hl 0 rfl) ?_
  refine va_get (D := D) (ci := 3) (v := .int (nI (P 0 0))) (C := R_M) (T := F_M) (N := 26) hx hb htb u_M hown hK hP 0 rfl rfl 1 (by decide) (htb _ q580) (fun _ h9 => h9) rfl d_M_person_28 ?_
  refine nr_bipush hx hb 6 d_M_person_31 (by decide) ?_
  refine nr_icmp_ne (tgt := 40) hx hb (by omega) (by omega) d_M_person_33 (by decide) (fun c_33 => ?_) (fun c_33 => ?_)
  · refine nr_iconst hx hb 0 d_M_person_40 (by decide) ?_
    refine nr_iconst hx hb 0 d_M_person_41 (by decide) ?_
    refine nr_iconst hx hb 0 d_M_person_42 (by decide) ?_
    refine nr_callwi (wr := ([] : va_W)) (va_runV (As := [.int (nI 1), .int (nI 0), .int (nI 0), .int (nI 0)]) (rest := []) ⟨hx, hb, hml, hown, hts⟩ (c_M_throwing l D am cm P G X 1 0 0 0 (by decide) (by decide) (by decide) (by decide) H.size) ⟨callB_of 4 hts (gTB q_M_throwing) rfl rfl rfl (htb _ q4) (htb _ q669) hd_M_throwing ⟨Nat.le_of_ble_eq_true rfl, Nat.le_of_ble_eq_true rfl⟩, (htb _ q671), (htb _ sel_M_throwing)⟩ ⟨rw_blind, va_recv (hK.sub (tys' := []) [] rfl) hP (ci := 3) (q0 := 0) rfl rfl, rw_pre hN (hP.sub (ws' := (wM am cm P G X)) [0, 1, 2, 3, 4, 5, 6, 7, 8, 9, 10, 11, 12, 13, 14] rfl) (hK.sub (tys' := (tM cm)) [0, 1, 2, 3, 4, 5, 6, 7, 8, 9, 10, 11, 12, 13] rfl) (hD.sub (ws' := (wM am cm P G X)) [0, 1, 2, 3, 4, 5, 6, 7, 8, 9, 10, 11, 12, 13, 14] (by decide) rfl)⟩ rfl rfl hl.1 rfl (lv_room (Nat.le_of_ble_eq_true rfl)) d_M_person_43 ⟨Nat.le_of_ble_eq_true rfl, Nat.le_of_ble_eq_true rfl⟩) hP hD hS hA [0, 1, 2, 3, 4, 5, 6, 7, 8, 9, 10, 11, 12, 13, 14] [] rfl rfl (by decide) (by decide) (fun r_2 u_2 H locs hr_2 hP hD hS => ?_)
    subst hr_2
    replace hP := hP.sub (ws' := wM am cm P G (up2 X 0 0 1)) [0, 1, 2, 3, 4, 5, 6, 7, 8, 9, 10, 11, 12, 13, 14] rfl
    replace hD := hD.sub (ws' := wM am cm P G (up2 X 0 0 1)) [0, 1, 2, 3, 4, 5, 6, 7, 8, 9, 10, 11, 12, 13, 14] (by decide) rfl
    refine nr_top (y := nI 1) rfl ?_
    refine nr_if_eq (tgt := 51) hx hb (by omega) d_M_person_46 (by decide) (fun c_46 => by exfalso; omega) (fun c_46 => ?_)
    refine nr_iconst hx hb 0 d_M_person_49 (by decide) ?_
    exact W.iret (v := (nI 0)) hx hb hr (fun t ht hW => ⟨⟨_, (), rfl, rfl, by rw [ht]; exact hP, hD⟩, hS.F ht⟩) hS.2.2 d_M_person_50
  · refine nr_iconst hx hb 1 d_M_person_36 (by decide) ?_
    refine lv_goto (tgt := 41) hx hb d_M_person_37 (by decide) ?_
    refine nr_iconst hx hb 0 d_M_person_41 (by decide) ?_
    refine nr_iconst hx hb 0 d_M_person_42 (by decide) ?_
    refine nr_callwi (wr := ([] : va_W)) (va_runV (As := [.int (nI 1), .int (nI 1), .int (nI 0), .int (nI 0)]) (rest := []) ⟨hx, hb, hml, hown, hts⟩ (c_M_throwing l D am cm P G X 1 1 0 0 (by decide) (by decide) (by decide) (by decide) H.size) ⟨callB_of 4 hts (gTB q_M_throwing) rfl rfl rfl (htb _ q4) (htb _ q669) hd_M_throwing ⟨Nat.le_of_ble_eq_true rfl, Nat.le_of_ble_eq_true rfl⟩, (htb _ q671), (htb _ sel_M_throwing)⟩ ⟨rw_blind, va_recv (hK.sub (tys' := []) [] rfl) hP (ci := 3) (q0 := 0) rfl rfl, rw_pre hN (hP.sub (ws' := (wM am cm P G X)) [0, 1, 2, 3, 4, 5, 6, 7, 8, 9, 10, 11, 12, 13, 14] rfl) (hK.sub (tys' := (tM cm)) [0, 1, 2, 3, 4, 5, 6, 7, 8, 9, 10, 11, 12, 13] rfl) (hD.sub (ws' := (wM am cm P G X)) [0, 1, 2, 3, 4, 5, 6, 7, 8, 9, 10, 11, 12, 13, 14] (by decide) rfl)⟩ rfl rfl hl.1 rfl (lv_room (Nat.le_of_ble_eq_true rfl)) d_M_person_43 ⟨Nat.le_of_ble_eq_true rfl, Nat.le_of_ble_eq_true rfl⟩) hP hD hS hA [0, 1, 2, 3, 4, 5, 6, 7, 8, 9, 10, 11, 12, 13, 14] [] rfl rfl (by decide) (by decide) (fun r_3 u_3 H locs hr_3 hP hD hS => ?_)
    subst hr_3
    replace hP := hP.sub (ws' := wM am cm P G (up2 X 0 0 1)) [0, 1, 2, 3, 4, 5, 6, 7, 8, 9, 10, 11, 12, 13, 14] rfl
    replace hD := hD.sub (ws' := wM am cm P G (up2 X 0 0 1)) [0, 1, 2, 3, 4, 5, 6, 7, 8, 9, 10, 11, 12, 13, 14] (by decide) rfl
    refine nr_top (y := nI 1) rfl ?_
    refine nr_if_eq (tgt := 51) hx hb (by omega) d_M_person_46 (by decide) (fun c_46 => by exfalso; omega) (fun c_46 => ?_)
    refine nr_iconst hx hb 0 d_M_person_49 (by decide) ?_
    exact W.iret (v := (nI 0)) hx hb hr (fun t ht hW => ⟨⟨_, (), rfl, rfl, by rw [ht]; exact hP, hD⟩, hS.F ht⟩) hS.2.2 d_M_person_50
set_option maxHeartbeats 4000000 in
set_option maxRecDepth 100000 in
theorem j_M_person_1b (l : Launch) (D : va_G) (am : Nat → Nat) (cm : Nat → ClassId) (P G X : Nat → Nat → Nat) (hP0 : okP P) (hG0 : okG G) (hX0 : okX X) (x : Nat) (y : Int32) (h_x : (0 ≤ x ∧ x ≤ 15)) (hbad : decide (nI 0 ≤ y ∧ y ≤ nI 10000) = false) (sz : Nat) : Met l y_M_person w_M_person { frames := 1, cells := 0, slots := 0, locals := 24 } (rw_P [.ref (am 0), .int (nI x), .int y] D (wM am cm P G X) (tM cm) sz) (rw_Qi (fun (r : Int32) (u : Unit) => r = nI 0) D (wM am cm P G X) (fun u => wM am cm P G (up2 X 0 0 1)) sz) 0 0 (va_A (wM am cm P G X) sz) := by
  refine Met.ofW (cc := b_M_person) (maxL := 3) (ret := (some .int)) (by decide) rfl ?_
  intro p e s m args below meth c s₁ B hml hv
  obtain ⟨rfl, hsz, hN, hP, hK, hD0⟩ := hv
  have hx := B.exec
  have hb := B.bytes
  have hr := B.returns
  have hts := atoms_spec (ws := w_M_person) B.pre
  have htb : ∀ w ∈ TBG, w.before [.ref (am 0), .int (nI x), .int y].toArray s = true := fun w h => hts w (List.mem_cons_of_mem _ h)
  have hown : s.vm.findClass R_M = some m.cls := findClass_of_methodNamed B.named
  have hlocks := B.notSynchronized
  subst hsz
  have hD := hD0.self (sz := s.heap.size)
  unfold rw_Qi
  generalize hAe : va_A (wM am cm P G X) s.heap.size = A at hD ⊢
  have hA : ∀ q : Nat, s.heap.size ≤ q → A q := fun q h => by rw [← hAe]; exact Or.inr h
  have hS : va_S A s.heap s.heap [] := va_S.rf
  have hl := lv_entry ([.ref (am 0), .int (nI x), .int y]) (n := 3) (Nat.le_of_ble_eq_true rfl)
  rw [lg_entry_eq]
  generalize (lg_sl ([.ref (am 0), .int (nI x), .int y]) ++ List.replicate (3 - (lg_sl ([.ref (am 0), .int (nI x), .int y])).length) Slot.unset).toArray = ls at hl ⊢
  have hl : lv_has ls 3 [(0, .ref (am 0)), (1, .int (nI x)), (2, .int y)] := hl
  refine nr_start hP hS (fun H locs hP hS => ?_)
  obtain ⟨h00, h01, h02, h03, h04, h05, hp1, hp2, hp3, hp4, hp5, hp6⟩ := id hP0
  obtain ⟨k00, k01, hg1, hg2⟩ := id hG0
  obtain ⟨x00, x01, x02, x03, hx1, hx2, hx3, hx4, hx5, hx6, hx7⟩ := id hX0
  refine lv_aload_n hx hb d_M_person_0 rfl (lv_at hl 0 rfl) ?_
  refine lv_iload_n hx hb d_M_person_1 rfl (lv_at hl 1 rfl) ?_
  refine nr_iconst hx hb 0 d_M_person_2 (by decide) ?_
  refine nr_bipush hx hb 15 d_M_person_3 (by decide) ?_
  refine nr_calli (va_runS (As := [.int (nI x), .int (nI 0), .int (nI 15)]) (rest := [.ref (am 0)]) ⟨hx, hb, hml, hown, hts⟩ (c_M_in l D (nI x) (nI 0) (nI 15)) ⟨callB_of 3 hts (gTB q_M_in) rfl rfl rfl (htb _ q4) (htb _ q666) hd_M_in ⟨Nat.le_of_ble_eq_true rfl, Nat.le_of_ble_eq_true rfl⟩, (htb _ q667)⟩ ⟨ro_blind, ro_pre hN (hP.sub (ws' := []) [] rfl) (hK.sub (tys' := []) [] rfl)⟩ rfl rfl hl.1 rfl (lv_room (Nat.le_of_ble_eq_true rfl)) d_M_person_5 ⟨Nat.le_of_ble_eq_true rfl, Nat.le_of_ble_eq_true rfl⟩) (fun r_1 hr_1 => ?_)
  subst hr_1
  refine nr_top (y := nI 1) (by rw [in_n (h_x).1 (h_x).2 (by omega)]; rfl) ?_
  refine nr_if_eq (tgt := 22) hx hb (by omega) d_M_person_8 (by decide) (fun c_8 => by exfalso; omega) (fun c_8 => ?_)
  refine lv_iload_n hx hb d_M_person_11 rfl (lv_at hl 2 rfl) ?_
  refine nr_iconst hx hb 0 d_M_person_12 (by decide) ?_
  refine nr_sipush hx hb 10000 d_M_person_13 (by decide) ?_
  refine nr_calli (va_runS (As := [.int y, .int (nI 0), .int (nI 10000)]) (rest := [.ref (am 0)]) ⟨hx, hb, hml, hown, hts⟩ (c_M_in l D y (nI 0) (nI 10000)) ⟨callB_of 3 hts (gTB q_M_in) rfl rfl rfl (htb _ q4) (htb _ q666) hd_M_in ⟨Nat.le_of_ble_eq_true rfl, Nat.le_of_ble_eq_true rfl⟩, (htb _ q667)⟩ ⟨ro_blind, ro_pre hN (hP.sub (ws' := []) [] rfl) (hK.sub (tys' := []) [] rfl)⟩ rfl rfl hl.1 rfl (lv_room (Nat.le_of_ble_eq_true rfl)) d_M_person_16 ⟨Nat.le_of_ble_eq_true rfl, Nat.le_of_ble_eq_true rfl⟩) (fun r_2 hr_2 => ?_)
  subst hr_2
  refine nr_top (y := nI 0) (by rw [hbad]; rfl) ?_
  refine nr_if_ne (tgt := 26) hx hb (by omega) d_M_person_19 (by decide) (fun c_19 => by exfalso; omega) (fun c_19 => ?_)
  refine nr_iconst hx hb 1 d_M_person_22 (by decide) ?_
  refine lv_goto (tgt := 27) hx hb d_M_person_23 (by decide) ?_
  refine lv_aload_n hx hb d_M_person_27 rfl (lv_at hl 0 rfl) ?_
  refine va_get (D := D) (ci := 3) (v := .int (nI (P 0 0))) (C := R_M) (T := F_M) (N := 26) hx hb htb u_M hown hK hP 0 rfl rfl 1 (by decide) (htb _ q580) (fun _ h9 => h9) rfl d_M_person_28 ?_
  refine nr_bipush hx hb 6 d_M_person_31 (by decide) ?_
  refine nr_icmp_ne (tgt := 40) hx hb (by omega) (by omega) d_M_person_33 (by decide) (fun c_33 => ?_) (fun c_33 => ?_)
  · refine nr_iconst hx hb 0 d_M_person_40 (by decide) ?_
    refine nr_iconst hx hb 0 d_M_person_41 (by decide) ?_
    refine nr_iconst hx hb 0 d_M_person_42 (by decide) ?_
    refine nr_callwi (wr := ([] : va_W)) (va_runV (As := [.int (nI 1), .int (nI 0), .int (nI 0), .int (nI 0)]) (rest := []) ⟨hx, hb, hml, hown, hts⟩ (c_M_throwing l D am cm P G X 1 0 0 0 (by decide) (by decide) (by decide) (by decide) H.size) ⟨callB_of 4 hts (gTB q_M_throwing) rfl rfl rfl (htb _ q4) (htb _ q669) hd_M_throwing ⟨Nat.le_of_ble_eq_true rfl, Nat.le_of_ble_eq_true rfl⟩, (htb _ q671), (htb _ sel_M_throwing)⟩ ⟨rw_blind, va_recv (hK.sub (tys' := []) [] rfl) hP (ci := 3) (q0 := 0) rfl rfl, rw_pre hN (hP.sub (ws' := (wM am cm P G X)) [0, 1, 2, 3, 4, 5, 6, 7, 8, 9, 10, 11, 12, 13, 14] rfl) (hK.sub (tys' := (tM cm)) [0, 1, 2, 3, 4, 5, 6, 7, 8, 9, 10, 11, 12, 13] rfl) (hD.sub (ws' := (wM am cm P G X)) [0, 1, 2, 3, 4, 5, 6, 7, 8, 9, 10, 11, 12, 13, 14] (by decide) rfl)⟩ rfl rfl hl.1 rfl (lv_room (Nat.le_of_ble_eq_true rfl)) d_M_person_43 ⟨Nat.le_of_ble_eq_true rfl, Nat.le_of_ble_eq_true rfl⟩) hP hD hS hA [0, 1, 2, 3, 4, 5, 6, 7, 8, 9, 10, 11, 12, 13, 14] [] rfl rfl (by decide) (by decide) (fun r_3 u_3 H locs hr_3 hP hD hS => ?_)
    subst hr_3
    replace hP := hP.sub (ws' := wM am cm P G (up2 X 0 0 1)) [0, 1, 2, 3, 4, 5, 6, 7, 8, 9, 10, 11, 12, 13, 14] rfl
    replace hD := hD.sub (ws' := wM am cm P G (up2 X 0 0 1)) [0, 1, 2, 3, 4, 5, 6, 7, 8, 9, 10, 11, 12, 13, 14] (by decide) rfl
    refine nr_top (y := nI 1) rfl ?_
    refine nr_if_eq (tgt := 51) hx hb (by omega) d_M_person_46 (by decide) (fun c_46 => by exfalso; omega) (fun c_46 => ?_)
    refine nr_iconst hx hb 0 d_M_person_49 (by decide) ?_
    exact W.iret (v := (nI 0)) hx hb hr (fun t ht hW => ⟨⟨_, (), rfl, rfl, by rw [ht]; exact hP, hD⟩, hS.F ht⟩) hS.2.2 d_M_person_50
  · refine nr_iconst hx hb 1 d_M_person_36 (by decide) ?_
    refine lv_goto (tgt := 41) hx hb d_M_person_37 (by decide) ?_
    refine nr_iconst hx hb 0 d_M_person_41 (by decide) ?_
    refine nr_iconst hx hb 0 d_M_person_42 (by decide) ?_
    refine nr_callwi (wr := ([] : va_W)) (va_runV (As := [.int (nI 1), .int (nI 1), .int (nI 0), .int (nI 0)]) (rest := []) ⟨hx, hb, hml, hown, hts⟩ (c_M_throwing l D am cm P G X 1 1 0 0 (by decide) (by decide) (by decide) (by decide) H.size) ⟨callB_of 4 hts (gTB q_M_throwing) rfl rfl rfl (htb _ q4) (htb _ q669) hd_M_throwing ⟨Nat.le_of_ble_eq_true rfl, Nat.le_of_ble_eq_true rfl⟩, (htb _ q671), (htb _ sel_M_throwing)⟩ ⟨rw_blind, va_recv (hK.sub (tys' := []) [] rfl) hP (ci := 3) (q0 := 0) rfl rfl, rw_pre hN (hP.sub (ws' := (wM am cm P G X)) [0, 1, 2, 3, 4, 5, 6, 7, 8, 9, 10, 11, 12, 13, 14] rfl) (hK.sub (tys' := (tM cm)) [0, 1, 2, 3, 4, 5, 6, 7, 8, 9, 10, 11, 12, 13] rfl) (hD.sub (ws' := (wM am cm P G X)) [0, 1, 2, 3, 4, 5, 6, 7, 8, 9, 10, 11, 12, 13, 14] (by decide) rfl)⟩ rfl rfl hl.1 rfl (lv_room (Nat.le_of_ble_eq_true rfl)) d_M_person_43 ⟨Nat.le_of_ble_eq_true rfl, Nat.le_of_ble_eq_true rfl⟩) hP hD hS hA [0, 1, 2, 3, 4, 5, 6, 7, 8, 9, 10, 11, 12, 13, 14] [] rfl rfl (by decide) (by decide) (fun r_4 u_4 H locs hr_4 hP hD hS => ?_)
    subst hr_4
    replace hP := hP.sub (ws' := wM am cm P G (up2 X 0 0 1)) [0, 1, 2, 3, 4, 5, 6, 7, 8, 9, 10, 11, 12, 13, 14] rfl
    replace hD := hD.sub (ws' := wM am cm P G (up2 X 0 0 1)) [0, 1, 2, 3, 4, 5, 6, 7, 8, 9, 10, 11, 12, 13, 14] (by decide) rfl
    refine nr_top (y := nI 1) rfl ?_
    refine nr_if_eq (tgt := 51) hx hb (by omega) d_M_person_46 (by decide) (fun c_46 => by exfalso; omega) (fun c_46 => ?_)
    refine nr_iconst hx hb 0 d_M_person_49 (by decide) ?_
    exact W.iret (v := (nI 0)) hx hb hr (fun t ht hW => ⟨⟨_, (), rfl, rfl, by rw [ht]; exact hP, hD⟩, hS.F ht⟩) hS.2.2 d_M_person_50
set_option maxHeartbeats 4000000 in
set_option maxRecDepth 100000 in
theorem j_M_person_2 (l : Launch) (D : va_G) (am : Nat → Nat) (cm : Nat → ClassId) (P G X : Nat → Nat → Nat) (hP0 : okP P) (hG0 : okG G) (hX0 : okX X) (x y : Nat) (h_x : (0 ≤ x ∧ x ≤ 15)) (h_y : (0 ≤ y ∧ y ≤ 10000)) (hfull : P 0 0 = 6) (sz : Nat) : Met l y_M_person w_M_person { frames := 1, cells := 0, slots := 0, locals := 24 } (rw_P [.ref (am 0), .int (nI x), .int (nI y)] D (wM am cm P G X) (tM cm) sz) (rw_Qi (fun (r : Int32) (u : Unit) => r = nI 0) D (wM am cm P G X) (fun u => wM am cm P G (up2 X 0 0 2)) sz) 0 0 (va_A (wM am cm P G X) sz) := by
  refine Met.ofW (cc := b_M_person) (maxL := 3) (ret := (some .int)) (by decide) rfl ?_
  intro p e s m args below meth c s₁ B hml hv
  obtain ⟨rfl, hsz, hN, hP, hK, hD0⟩ := hv
  have hx := B.exec
  have hb := B.bytes
  have hr := B.returns
  have hts := atoms_spec (ws := w_M_person) B.pre
  have htb : ∀ w ∈ TBG, w.before [.ref (am 0), .int (nI x), .int (nI y)].toArray s = true := fun w h => hts w (List.mem_cons_of_mem _ h)
  have hown : s.vm.findClass R_M = some m.cls := findClass_of_methodNamed B.named
  have hlocks := B.notSynchronized
  subst hsz
  have hD := hD0.self (sz := s.heap.size)
  unfold rw_Qi
  generalize hAe : va_A (wM am cm P G X) s.heap.size = A at hD ⊢
  have hA : ∀ q : Nat, s.heap.size ≤ q → A q := fun q h => by rw [← hAe]; exact Or.inr h
  have hS : va_S A s.heap s.heap [] := va_S.rf
  have hl := lv_entry ([.ref (am 0), .int (nI x), .int (nI y)]) (n := 3) (Nat.le_of_ble_eq_true rfl)
  rw [lg_entry_eq]
  generalize (lg_sl ([.ref (am 0), .int (nI x), .int (nI y)]) ++ List.replicate (3 - (lg_sl ([.ref (am 0), .int (nI x), .int (nI y)])).length) Slot.unset).toArray = ls at hl ⊢
  have hl : lv_has ls 3 [(0, .ref (am 0)), (1, .int (nI x)), (2, .int (nI y))] := hl
  refine nr_start hP hS (fun H locs hP hS => ?_)
  obtain ⟨h00, h01, h02, h03, h04, h05, hp1, hp2, hp3, hp4, hp5, hp6⟩ := id hP0
  obtain ⟨k00, k01, hg1, hg2⟩ := id hG0
  obtain ⟨x00, x01, x02, x03, hx1, hx2, hx3, hx4, hx5, hx6, hx7⟩ := id hX0
  refine lv_aload_n hx hb d_M_person_0 rfl (lv_at hl 0 rfl) ?_
  refine lv_iload_n hx hb d_M_person_1 rfl (lv_at hl 1 rfl) ?_
  refine nr_iconst hx hb 0 d_M_person_2 (by decide) ?_
  refine nr_bipush hx hb 15 d_M_person_3 (by decide) ?_
  refine nr_calli (va_runS (As := [.int (nI x), .int (nI 0), .int (nI 15)]) (rest := [.ref (am 0)]) ⟨hx, hb, hml, hown, hts⟩ (c_M_in l D (nI x) (nI 0) (nI 15)) ⟨callB_of 3 hts (gTB q_M_in) rfl rfl rfl (htb _ q4) (htb _ q666) hd_M_in ⟨Nat.le_of_ble_eq_true rfl, Nat.le_of_ble_eq_true rfl⟩, (htb _ q667)⟩ ⟨ro_blind, ro_pre hN (hP.sub (ws' := []) [] rfl) (hK.sub (tys' := []) [] rfl)⟩ rfl rfl hl.1 rfl (lv_room (Nat.le_of_ble_eq_true rfl)) d_M_person_5 ⟨Nat.le_of_ble_eq_true rfl, Nat.le_of_ble_eq_true rfl⟩) (fun r_1 hr_1 => ?_)
  subst hr_1
  refine nr_top (y := nI 1) (by rw [in_n (h_x).1 (h_x).2 (by omega)]; rfl) ?_
  refine nr_if_eq (tgt := 22) hx hb (by omega) d_M_person_8 (by decide) (fun c_8 => by exfalso; omega) (fun c_8 => ?_)
  refine lv_iload_n hx hb d_M_person_11 rfl (lv_at hl 2 rfl) ?_
  refine nr_iconst hx hb 0 d_M_person_12 (by decide) ?_
  refine nr_sipush hx hb 10000 d_M_person_13 (by decide) ?_
  refine nr_calli (va_runS (As := [.int (nI y), .int (nI 0), .int (nI 10000)]) (rest := [.ref (am 0)]) ⟨hx, hb, hml, hown, hts⟩ (c_M_in l D (nI y) (nI 0) (nI 10000)) ⟨callB_of 3 hts (gTB q_M_in) rfl rfl rfl (htb _ q4) (htb _ q666) hd_M_in ⟨Nat.le_of_ble_eq_true rfl, Nat.le_of_ble_eq_true rfl⟩, (htb _ q667)⟩ ⟨ro_blind, ro_pre hN (hP.sub (ws' := []) [] rfl) (hK.sub (tys' := []) [] rfl)⟩ rfl rfl hl.1 rfl (lv_room (Nat.le_of_ble_eq_true rfl)) d_M_person_16 ⟨Nat.le_of_ble_eq_true rfl, Nat.le_of_ble_eq_true rfl⟩) (fun r_2 hr_2 => ?_)
  subst hr_2
  refine nr_top (y := nI 1) (by rw [in_n (h_y).1 (h_y).2 (by omega)]; rfl) ?_
  refine nr_if_ne (tgt := 26) hx hb (by omega) d_M_person_19 (by decide) (fun c_19 => ?_) (fun c_19 => by exfalso; omega)
  refine nr_iconst hx hb 0 d_M_person_26 (by decide) ?_
  refine lv_aload_n hx hb d_M_person_27 rfl (lv_at hl 0 rfl) ?_
  refine va_get (D := D) (ci := 3) (v := .int (nI (P 0 0))) (C := R_M) (T := F_M) (N := 26) hx hb htb u_M hown hK hP 0 rfl rfl 1 (by decide) (htb _ q580) (fun _ h9 => h9) rfl d_M_person_28 ?_
  refine nr_bipush hx hb 6 d_M_person_31 (by decide) ?_
  refine nr_icmp_ne (tgt := 40) hx hb (by omega) (by omega) d_M_person_33 (by decide) (fun c_33 => by exfalso; omega) (fun c_33 => ?_)
  refine nr_iconst hx hb 1 d_M_person_36 (by decide) ?_
  refine lv_goto (tgt := 41) hx hb d_M_person_37 (by decide) ?_
  refine nr_iconst hx hb 0 d_M_person_41 (by decide) ?_
  refine nr_iconst hx hb 0 d_M_person_42 (by decide) ?_
  refine nr_callwi (wr := ([] : va_W)) (va_runV (As := [.int (nI 0), .int (nI 1), .int (nI 0), .int (nI 0)]) (rest := []) ⟨hx, hb, hml, hown, hts⟩ (c_M_throwing l D am cm P G X 0 1 0 0 (by decide) (by decide) (by decide) (by decide) H.size) ⟨callB_of 4 hts (gTB q_M_throwing) rfl rfl rfl (htb _ q4) (htb _ q669) hd_M_throwing ⟨Nat.le_of_ble_eq_true rfl, Nat.le_of_ble_eq_true rfl⟩, (htb _ q671), (htb _ sel_M_throwing)⟩ ⟨rw_blind, va_recv (hK.sub (tys' := []) [] rfl) hP (ci := 3) (q0 := 0) rfl rfl, rw_pre hN (hP.sub (ws' := (wM am cm P G X)) [0, 1, 2, 3, 4, 5, 6, 7, 8, 9, 10, 11, 12, 13, 14] rfl) (hK.sub (tys' := (tM cm)) [0, 1, 2, 3, 4, 5, 6, 7, 8, 9, 10, 11, 12, 13] rfl) (hD.sub (ws' := (wM am cm P G X)) [0, 1, 2, 3, 4, 5, 6, 7, 8, 9, 10, 11, 12, 13, 14] (by decide) rfl)⟩ rfl rfl hl.1 rfl (lv_room (Nat.le_of_ble_eq_true rfl)) d_M_person_43 ⟨Nat.le_of_ble_eq_true rfl, Nat.le_of_ble_eq_true rfl⟩) hP hD hS hA [0, 1, 2, 3, 4, 5, 6, 7, 8, 9, 10, 11, 12, 13, 14] [] rfl rfl (by decide) (by decide) (fun r_3 u_3 H locs hr_3 hP hD hS => ?_)
  subst hr_3
  replace hP := hP.sub (ws' := wM am cm P G (up2 X 0 0 2)) [0, 1, 2, 3, 4, 5, 6, 7, 8, 9, 10, 11, 12, 13, 14] rfl
  replace hD := hD.sub (ws' := wM am cm P G (up2 X 0 0 2)) [0, 1, 2, 3, 4, 5, 6, 7, 8, 9, 10, 11, 12, 13, 14] (by decide) rfl
  refine nr_top (y := nI 1) rfl ?_
  refine nr_if_eq (tgt := 51) hx hb (by omega) d_M_person_46 (by decide) (fun c_46 => by exfalso; omega) (fun c_46 => ?_)
  refine nr_iconst hx hb 0 d_M_person_49 (by decide) ?_
  exact W.iret (v := (nI 0)) hx hb hr (fun t ht hW => ⟨⟨_, (), rfl, rfl, by rw [ht]; exact hP, hD⟩, hS.F ht⟩) hS.2.2 d_M_person_50
set_option maxHeartbeats 4000000 in
set_option maxRecDepth 100000 in
theorem j_M_need_1a (l : Launch) (D : va_G) (am : Nat → Nat) (cm : Nat → ClassId) (P G X : Nat → Nat → Nat) (hP0 : okP P) (hG0 : okG G) (hX0 : okX X) (d sf x y : Int32) (hbad : inR d (P 0 1) = false) (sz : Nat) : Met l y_M_need w_M_need { frames := 2, cells := 0, slots := 0, locals := 43 } (rw_P [.ref (am 0), .int d, .int sf, .int x, .int y] D (wM am cm P G X) (tM cm) sz) (rw_Qv (fun u : Unit => True) D (wM am cm P G X) (fun u => wM am cm P G (up2 X 0 0 1)) sz) 0 0 (va_A (wM am cm P G X) sz) := by
  refine Met.ofW (cc := b_M_need) (maxL := 5) (ret := none) (by decide) rfl ?_
  intro p e s m args below meth c s₁ B hml hv
  obtain ⟨rfl, hsz, hN, hP, hK, hD0⟩ := hv
  have hx := B.exec
  have hb := B.bytes
  have hr := B.returns
  have hts := atoms_spec (ws := w_M_need) B.pre
  have htb : ∀ w ∈ TBG, w.before [.ref (am 0), .int d, .int sf, .int x, .int y].toArray s = true := fun w h => hts w (List.mem_cons_of_mem _ h)
  have hown : s.vm.findClass R_M = some m.cls := findClass_of_methodNamed B.named
  have hlocks := B.notSynchronized
  subst hsz
  have hD := hD0.self (sz := s.heap.size)
  unfold rw_Qv
  generalize hAe : va_A (wM am cm P G X) s.heap.size = A at hD ⊢
  have hA : ∀ q : Nat, s.heap.size ≤ q → A q := fun q h => by rw [← hAe]; exact Or.inr h
  have hS : va_S A s.heap s.heap [] := va_S.rf
  have hl := lv_entry ([.ref (am 0), .int d, .int sf, .int x, .int y]) (n := 5) (Nat.le_of_ble_eq_true rfl)
  rw [lg_entry_eq]
  generalize (lg_sl ([.ref (am 0), .int d, .int sf, .int x, .int y]) ++ List.replicate (5 - (lg_sl ([.ref (am 0), .int d, .int sf, .int x, .int y])).length) Slot.unset).toArray = ls at hl ⊢
  have hl : lv_has ls 5 [(0, .ref (am 0)), (1, .int d), (2, .int sf), (3, .int x), (4, .int y)] := hl
  refine nr_start hP hS (fun H locs hP hS => ?_)
  obtain ⟨h00, h01, h02, h03, h04, h05, hp1, hp2, hp3, hp4, hp5, hp6⟩ := id hP0
  obtain ⟨k00, k01, hg1, hg2⟩ := id hG0
  obtain ⟨x00, x01, x02, x03, hx1, hx2, hx3, hx4, hx5, hx6, hx7⟩ := id hX0
  refine lv_aload_n hx hb d_M_need_0 rfl (lv_at hl 0 rfl) ?_
  refine lv_aload_n hx hb d_M_need_1 rfl (lv_at hl 0 rfl) ?_
  refine lv_iload_n hx hb d_M_need_2 rfl (lv_at hl 1 rfl) ?_
  refine nr_calli (va_runV (As := [.int d]) (rest := [.ref (am 0)]) ⟨hx, hb, hml, hown, hts⟩ (c_M_isDay l D am cm P G X (am 3) (cm 2) (G 1) hP0 hG0 hX0 hg1 d) ⟨callB_of 1 hts (gTB q_M_isDay) rfl rfl rfl (htb _ q4) (htb _ q681) hd_M_isDay ⟨Nat.le_of_ble_eq_true rfl, Nat.le_of_ble_eq_true rfl⟩, (htb _ q683), (htb _ sel_M_isDay)⟩ ⟨ro_blind, va_recv (hK.sub (tys' := []) [] rfl) hP (ci := 3) (q0 := 0) rfl rfl, ro_pre hN (hP.sub (ws' := (wMS am cm P G X (am 3) (cm 2) (G 1))) [0, 1, 2, 3, 4, 5, 6, 7, 8, 9, 10, 11, 12, 13, 14, 3] rfl) (hK.sub (tys' := (tMS cm (cm 2))) [0, 1, 2, 3, 4, 5, 6, 7, 8, 9, 10, 11, 12, 13, 2] rfl)⟩ rfl rfl hl.1 rfl (lv_room (Nat.le_of_ble_eq_true rfl)) d_M_need_3 ⟨Nat.le_of_ble_eq_true rfl, Nat.le_of_ble_eq_true rfl⟩) (fun r_1 hr_1 => ?_)
  subst hr_1
  refine nr_top (y := nI 0) (by rw [hbad]; rfl) ?_
  refine nr_if_eq (tgt := 18) hx hb (by omega) d_M_need_6 (by decide) (fun c_6 => ?_) (fun c_6 => by exfalso; omega)
  refine nr_iconst hx hb 1 d_M_need_18 (by decide) ?_
  refine lv_goto (tgt := 23) hx hb d_M_need_19 (by decide) ?_
  refine lv_iload_n hx hb d_M_need_23 rfl (lv_at hl 3 rfl) ?_
  refine nr_iconst hx hb 0 d_M_need_24 (by decide) ?_
  refine nr_bipush hx hb 6 d_M_need_25 (by decide) ?_
  refine nr_calli (va_runS (As := [.int x, .int (nI 0), .int (nI 6)]) (rest := [.int (nI 1), .ref (am 0)]) ⟨hx, hb, hml, hown, hts⟩ (c_M_in l D x (nI 0) (nI 6)) ⟨callB_of 3 hts (gTB q_M_in) rfl rfl rfl (htb _ q4) (htb _ q666) hd_M_in ⟨Nat.le_of_ble_eq_true rfl, Nat.le_of_ble_eq_true rfl⟩, (htb _ q667)⟩ ⟨ro_blind, ro_pre hN (hP.sub (ws' := []) [] rfl) (hK.sub (tys' := []) [] rfl)⟩ rfl rfl hl.1 rfl (lv_room (Nat.le_of_ble_eq_true rfl)) d_M_need_27 ⟨Nat.le_of_ble_eq_true rfl, Nat.le_of_ble_eq_true rfl⟩) (fun r_2 hr_2 => ?_)
  subst hr_2
  refine nr_if_eq (tgt := 44) hx hb b01_lt d_M_need_30 (by decide) (fun c_30 => ?_) (fun c_30 => ?_)
  · refine nr_iconst hx hb 1 d_M_need_44 (by decide) ?_
    refine lv_goto (tgt := 49) hx hb d_M_need_45 (by decide) ?_
    refine nr_iconst hx hb 0 d_M_need_49 (by decide) ?_
    refine nr_iconst hx hb 0 d_M_need_50 (by decide) ?_
    refine nr_callwi (wr := ([] : va_W)) (va_runV (As := [.int (nI 1), .int (nI 1), .int (nI 0), .int (nI 0)]) (rest := []) ⟨hx, hb, hml, hown, hts⟩ (c_M_throwing l D am cm P G X 1 1 0 0 (by decide) (by decide) (by decide) (by decide) H.size) ⟨callB_of 4 hts (gTB q_M_throwing) rfl rfl rfl (htb _ q4) (htb _ q669) hd_M_throwing ⟨Nat.le_of_ble_eq_true rfl, Nat.le_of_ble_eq_true rfl⟩, (htb _ q671), (htb _ sel_M_throwing)⟩ ⟨rw_blind, va_recv (hK.sub (tys' := []) [] rfl) hP (ci := 3) (q0 := 0) rfl rfl, rw_pre hN (hP.sub (ws' := (wM am cm P G X)) [0, 1, 2, 3, 4, 5, 6, 7, 8, 9, 10, 11, 12, 13, 14] rfl) (hK.sub (tys' := (tM cm)) [0, 1, 2, 3, 4, 5, 6, 7, 8, 9, 10, 11, 12, 13] rfl) (hD.sub (ws' := (wM am cm P G X)) [0, 1, 2, 3, 4, 5, 6, 7, 8, 9, 10, 11, 12, 13, 14] (by decide) rfl)⟩ rfl rfl hl.1 rfl (lv_room (Nat.le_of_ble_eq_true rfl)) d_M_need_51 ⟨Nat.le_of_ble_eq_true rfl, Nat.le_of_ble_eq_true rfl⟩) hP hD hS hA [0, 1, 2, 3, 4, 5, 6, 7, 8, 9, 10, 11, 12, 13, 14] [] rfl rfl (by decide) (by decide) (fun r_3 u_3 H locs hr_3 hP hD hS => ?_)
    subst hr_3
    replace hP := hP.sub (ws' := wM am cm P G (up2 X 0 0 1)) [0, 1, 2, 3, 4, 5, 6, 7, 8, 9, 10, 11, 12, 13, 14] rfl
    replace hD := hD.sub (ws' := wM am cm P G (up2 X 0 0 1)) [0, 1, 2, 3, 4, 5, 6, 7, 8, 9, 10, 11, 12, 13, 14] (by decide) rfl
    refine nr_top (y := nI 1) rfl ?_
    refine nr_if_eq (tgt := 58) hx hb (by omega) d_M_need_54 (by decide) (fun c_54 => by exfalso; omega) (fun c_54 => ?_)
    exact W.vret hx hb hr (fun t ht hW => ⟨⟨(), rfl, trivial, by rw [ht]; exact hP, hD⟩, hS.F ht⟩) hS.2.2 d_M_need_57
  · refine lv_iload hx hb d_M_need_33 (lv_at hl 4 rfl) ?_
    refine nr_iconst hx hb 0 d_M_need_35 (by decide) ?_
    refine nr_bipush hx hb 15 d_M_need_36 (by decide) ?_
    refine nr_calli (va_runS (As := [.int y, .int (nI 0), .int (nI 15)]) (rest := [.int (nI 1), .ref (am 0)]) ⟨hx, hb, hml, hown, hts⟩ (c_M_in l D y (nI 0) (nI 15)) ⟨callB_of 3 hts (gTB q_M_in) rfl rfl rfl (htb _ q4) (htb _ q666) hd_M_in ⟨Nat.le_of_ble_eq_true rfl, Nat.le_of_ble_eq_true rfl⟩, (htb _ q667)⟩ ⟨ro_blind, ro_pre hN (hP.sub (ws' := []) [] rfl) (hK.sub (tys' := []) [] rfl)⟩ rfl rfl hl.1 rfl (lv_room (Nat.le_of_ble_eq_true rfl)) d_M_need_38 ⟨Nat.le_of_ble_eq_true rfl, Nat.le_of_ble_eq_true rfl⟩) (fun r_4 hr_4 => ?_)
    subst hr_4
    refine nr_if_ne (tgt := 48) hx hb b01_lt d_M_need_41 (by decide) (fun c_41 => ?_) (fun c_41 => ?_)
    · refine nr_iconst hx hb 0 d_M_need_48 (by decide) ?_
      refine nr_iconst hx hb 0 d_M_need_49 (by decide) ?_
      refine nr_iconst hx hb 0 d_M_need_50 (by decide) ?_
      refine nr_callwi (wr := ([] : va_W)) (va_runV (As := [.int (nI 1), .int (nI 0), .int (nI 0), .int (nI 0)]) (rest := []) ⟨hx, hb, hml, hown, hts⟩ (c_M_throwing l D am cm P G X 1 0 0 0 (by decide) (by decide) (by decide) (by decide) H.size) ⟨callB_of 4 hts (gTB q_M_throwing) rfl rfl rfl (htb _ q4) (htb _ q669) hd_M_throwing ⟨Nat.le_of_ble_eq_true rfl, Nat.le_of_ble_eq_true rfl⟩, (htb _ q671), (htb _ sel_M_throwing)⟩ ⟨rw_blind, va_recv (hK.sub (tys' := []) [] rfl) hP (ci := 3) (q0 := 0) rfl rfl, rw_pre hN (hP.sub (ws' := (wM am cm P G X)) [0, 1, 2, 3, 4, 5, 6, 7, 8, 9, 10, 11, 12, 13, 14] rfl) (hK.sub (tys' := (tM cm)) [0, 1, 2, 3, 4, 5, 6, 7, 8, 9, 10, 11, 12, 13] rfl) (hD.sub (ws' := (wM am cm P G X)) [0, 1, 2, 3, 4, 5, 6, 7, 8, 9, 10, 11, 12, 13, 14] (by decide) rfl)⟩ rfl rfl hl.1 rfl (lv_room (Nat.le_of_ble_eq_true rfl)) d_M_need_51 ⟨Nat.le_of_ble_eq_true rfl, Nat.le_of_ble_eq_true rfl⟩) hP hD hS hA [0, 1, 2, 3, 4, 5, 6, 7, 8, 9, 10, 11, 12, 13, 14] [] rfl rfl (by decide) (by decide) (fun r_5 u_5 H locs hr_5 hP hD hS => ?_)
      subst hr_5
      replace hP := hP.sub (ws' := wM am cm P G (up2 X 0 0 1)) [0, 1, 2, 3, 4, 5, 6, 7, 8, 9, 10, 11, 12, 13, 14] rfl
      replace hD := hD.sub (ws' := wM am cm P G (up2 X 0 0 1)) [0, 1, 2, 3, 4, 5, 6, 7, 8, 9, 10, 11, 12, 13, 14] (by decide) rfl
      refine nr_top (y := nI 1) rfl ?_
      refine nr_if_eq (tgt := 58) hx hb (by omega) d_M_need_54 (by decide) (fun c_54 => by exfalso; omega) (fun c_54 => ?_)
      exact W.vret hx hb hr (fun t ht hW => ⟨⟨(), rfl, trivial, by rw [ht]; exact hP, hD⟩, hS.F ht⟩) hS.2.2 d_M_need_57
    · refine nr_iconst hx hb 1 d_M_need_44 (by decide) ?_
      refine lv_goto (tgt := 49) hx hb d_M_need_45 (by decide) ?_
      refine nr_iconst hx hb 0 d_M_need_49 (by decide) ?_
      refine nr_iconst hx hb 0 d_M_need_50 (by decide) ?_
      refine nr_callwi (wr := ([] : va_W)) (va_runV (As := [.int (nI 1), .int (nI 1), .int (nI 0), .int (nI 0)]) (rest := []) ⟨hx, hb, hml, hown, hts⟩ (c_M_throwing l D am cm P G X 1 1 0 0 (by decide) (by decide) (by decide) (by decide) H.size) ⟨callB_of 4 hts (gTB q_M_throwing) rfl rfl rfl (htb _ q4) (htb _ q669) hd_M_throwing ⟨Nat.le_of_ble_eq_true rfl, Nat.le_of_ble_eq_true rfl⟩, (htb _ q671), (htb _ sel_M_throwing)⟩ ⟨rw_blind, va_recv (hK.sub (tys' := []) [] rfl) hP (ci := 3) (q0 := 0) rfl rfl, rw_pre hN (hP.sub (ws' := (wM am cm P G X)) [0, 1, 2, 3, 4, 5, 6, 7, 8, 9, 10, 11, 12, 13, 14] rfl) (hK.sub (tys' := (tM cm)) [0, 1, 2, 3, 4, 5, 6, 7, 8, 9, 10, 11, 12, 13] rfl) (hD.sub (ws' := (wM am cm P G X)) [0, 1, 2, 3, 4, 5, 6, 7, 8, 9, 10, 11, 12, 13, 14] (by decide) rfl)⟩ rfl rfl hl.1 rfl (lv_room (Nat.le_of_ble_eq_true rfl)) d_M_need_51 ⟨Nat.le_of_ble_eq_true rfl, Nat.le_of_ble_eq_true rfl⟩) hP hD hS hA [0, 1, 2, 3, 4, 5, 6, 7, 8, 9, 10, 11, 12, 13, 14] [] rfl rfl (by decide) (by decide) (fun r_6 u_6 H locs hr_6 hP hD hS => ?_)
      subst hr_6
      replace hP := hP.sub (ws' := wM am cm P G (up2 X 0 0 1)) [0, 1, 2, 3, 4, 5, 6, 7, 8, 9, 10, 11, 12, 13, 14] rfl
      replace hD := hD.sub (ws' := wM am cm P G (up2 X 0 0 1)) [0, 1, 2, 3, 4, 5, 6, 7, 8, 9, 10, 11, 12, 13, 14] (by decide) rfl
      refine nr_top (y := nI 1) rfl ?_
      refine nr_if_eq (tgt := 58) hx hb (by omega) d_M_need_54 (by decide) (fun c_54 => by exfalso; omega) (fun c_54 => ?_)
      exact W.vret hx hb hr (fun t ht hW => ⟨⟨(), rfl, trivial, by rw [ht]; exact hP, hD⟩, hS.F ht⟩) hS.2.2 d_M_need_57
set_option maxHeartbeats 4000000 in
set_option maxRecDepth 100000 in
theorem j_M_need_1b (l : Launch) (D : va_G) (am : Nat → Nat) (cm : Nat → ClassId) (P G X : Nat → Nat → Nat) (hP0 : okP P) (hG0 : okG G) (hX0 : okX X) (d : Nat) (sf x y : Int32) (h_d : (d < P 0 1)) (hbad : decide (nI 1 ≤ sf ∧ sf ≤ nI 3) = false) (sz : Nat) : Met l y_M_need w_M_need { frames := 2, cells := 0, slots := 0, locals := 43 } (rw_P [.ref (am 0), .int (nI d), .int sf, .int x, .int y] D (wM am cm P G X) (tM cm) sz) (rw_Qv (fun u : Unit => True) D (wM am cm P G X) (fun u => wM am cm P G (up2 X 0 0 1)) sz) 0 0 (va_A (wM am cm P G X) sz) := by
  refine Met.ofW (cc := b_M_need) (maxL := 5) (ret := none) (by decide) rfl ?_
  intro p e s m args below meth c s₁ B hml hv
  obtain ⟨rfl, hsz, hN, hP, hK, hD0⟩ := hv
  have hx := B.exec
  have hb := B.bytes
  have hr := B.returns
  have hts := atoms_spec (ws := w_M_need) B.pre
  have htb : ∀ w ∈ TBG, w.before [.ref (am 0), .int (nI d), .int sf, .int x, .int y].toArray s = true := fun w h => hts w (List.mem_cons_of_mem _ h)
  have hown : s.vm.findClass R_M = some m.cls := findClass_of_methodNamed B.named
  have hlocks := B.notSynchronized
  subst hsz
  have hD := hD0.self (sz := s.heap.size)
  unfold rw_Qv
  generalize hAe : va_A (wM am cm P G X) s.heap.size = A at hD ⊢
  have hA : ∀ q : Nat, s.heap.size ≤ q → A q := fun q h => by rw [← hAe]; exact Or.inr h
  have hS : va_S A s.heap s.heap [] := va_S.rf
  have hl := lv_entry ([.ref (am 0), .int (nI d), .int sf, .int x, .int y]) (n := 5) (Nat.le_of_ble_eq_true rfl)
  rw [lg_entry_eq]
  generalize (lg_sl ([.ref (am 0), .int (nI d), .int sf, .int x, .int y]) ++ List.replicate (5 - (lg_sl ([.ref (am 0), .int (nI d), .int sf, .int x, .int y])).length) Slot.unset).toArray = ls at hl ⊢
  have hl : lv_has ls 5 [(0, .ref (am 0)), (1, .int (nI d)), (2, .int sf), (3, .int x), (4, .int y)] := hl
  refine nr_start hP hS (fun H locs hP hS => ?_)
  obtain ⟨h00, h01, h02, h03, h04, h05, hp1, hp2, hp3, hp4, hp5, hp6⟩ := id hP0
  obtain ⟨k00, k01, hg1, hg2⟩ := id hG0
  obtain ⟨x00, x01, x02, x03, hx1, hx2, hx3, hx4, hx5, hx6, hx7⟩ := id hX0
  refine lv_aload_n hx hb d_M_need_0 rfl (lv_at hl 0 rfl) ?_
  refine lv_aload_n hx hb d_M_need_1 rfl (lv_at hl 0 rfl) ?_
  refine lv_iload_n hx hb d_M_need_2 rfl (lv_at hl 1 rfl) ?_
  refine nr_calli (va_runV (As := [.int (nI d)]) (rest := [.ref (am 0)]) ⟨hx, hb, hml, hown, hts⟩ (c_M_isDay l D am cm P G X (am 3) (cm 2) (G 1) hP0 hG0 hX0 hg1 (nI d)) ⟨callB_of 1 hts (gTB q_M_isDay) rfl rfl rfl (htb _ q4) (htb _ q681) hd_M_isDay ⟨Nat.le_of_ble_eq_true rfl, Nat.le_of_ble_eq_true rfl⟩, (htb _ q683), (htb _ sel_M_isDay)⟩ ⟨ro_blind, va_recv (hK.sub (tys' := []) [] rfl) hP (ci := 3) (q0 := 0) rfl rfl, ro_pre hN (hP.sub (ws' := (wMS am cm P G X (am 3) (cm 2) (G 1))) [0, 1, 2, 3, 4, 5, 6, 7, 8, 9, 10, 11, 12, 13, 14, 3] rfl) (hK.sub (tys' := (tMS cm (cm 2))) [0, 1, 2, 3, 4, 5, 6, 7, 8, 9, 10, 11, 12, 13, 2] rfl)⟩ rfl rfl hl.1 rfl (lv_room (Nat.le_of_ble_eq_true rfl)) d_M_need_3 ⟨Nat.le_of_ble_eq_true rfl, Nat.le_of_ble_eq_true rfl⟩) (fun r_1 hr_1 => ?_)
  subst hr_1
  refine nr_top (y := nI 1) (by rw [inR_n h_d (by omega)]; rfl) ?_
  refine nr_if_eq (tgt := 18) hx hb (by omega) d_M_need_6 (by decide) (fun c_6 => by exfalso; omega) (fun c_6 => ?_)
  refine lv_iload_n hx hb d_M_need_9 rfl (lv_at hl 2 rfl) ?_
  refine nr_iconst hx hb 1 d_M_need_10 (by decide) ?_
  refine nr_iconst hx hb 3 d_M_need_11 (by decide) ?_
  refine nr_calli (va_runS (As := [.int sf, .int (nI 1), .int (nI 3)]) (rest := [.ref (am 0)]) ⟨hx, hb, hml, hown, hts⟩ (c_M_in l D sf (nI 1) (nI 3)) ⟨callB_of 3 hts (gTB q_M_in) rfl rfl rfl (htb _ q4) (htb _ q666) hd_M_in ⟨Nat.le_of_ble_eq_true rfl, Nat.le_of_ble_eq_true rfl⟩, (htb _ q667)⟩ ⟨ro_blind, ro_pre hN (hP.sub (ws' := []) [] rfl) (hK.sub (tys' := []) [] rfl)⟩ rfl rfl hl.1 rfl (lv_room (Nat.le_of_ble_eq_true rfl)) d_M_need_12 ⟨Nat.le_of_ble_eq_true rfl, Nat.le_of_ble_eq_true rfl⟩) (fun r_2 hr_2 => ?_)
  subst hr_2
  refine nr_top (y := nI 0) (by rw [hbad]; rfl) ?_
  refine nr_if_ne (tgt := 22) hx hb (by omega) d_M_need_15 (by decide) (fun c_15 => by exfalso; omega) (fun c_15 => ?_)
  refine nr_iconst hx hb 1 d_M_need_18 (by decide) ?_
  refine lv_goto (tgt := 23) hx hb d_M_need_19 (by decide) ?_
  refine lv_iload_n hx hb d_M_need_23 rfl (lv_at hl 3 rfl) ?_
  refine nr_iconst hx hb 0 d_M_need_24 (by decide) ?_
  refine nr_bipush hx hb 6 d_M_need_25 (by decide) ?_
  refine nr_calli (va_runS (As := [.int x, .int (nI 0), .int (nI 6)]) (rest := [.int (nI 1), .ref (am 0)]) ⟨hx, hb, hml, hown, hts⟩ (c_M_in l D x (nI 0) (nI 6)) ⟨callB_of 3 hts (gTB q_M_in) rfl rfl rfl (htb _ q4) (htb _ q666) hd_M_in ⟨Nat.le_of_ble_eq_true rfl, Nat.le_of_ble_eq_true rfl⟩, (htb _ q667)⟩ ⟨ro_blind, ro_pre hN (hP.sub (ws' := []) [] rfl) (hK.sub (tys' := []) [] rfl)⟩ rfl rfl hl.1 rfl (lv_room (Nat.le_of_ble_eq_true rfl)) d_M_need_27 ⟨Nat.le_of_ble_eq_true rfl, Nat.le_of_ble_eq_true rfl⟩) (fun r_3 hr_3 => ?_)
  subst hr_3
  refine nr_if_eq (tgt := 44) hx hb b01_lt d_M_need_30 (by decide) (fun c_30 => ?_) (fun c_30 => ?_)
  · refine nr_iconst hx hb 1 d_M_need_44 (by decide) ?_
    refine lv_goto (tgt := 49) hx hb d_M_need_45 (by decide) ?_
    refine nr_iconst hx hb 0 d_M_need_49 (by decide) ?_
    refine nr_iconst hx hb 0 d_M_need_50 (by decide) ?_
    refine nr_callwi (wr := ([] : va_W)) (va_runV (As := [.int (nI 1), .int (nI 1), .int (nI 0), .int (nI 0)]) (rest := []) ⟨hx, hb, hml, hown, hts⟩ (c_M_throwing l D am cm P G X 1 1 0 0 (by decide) (by decide) (by decide) (by decide) H.size) ⟨callB_of 4 hts (gTB q_M_throwing) rfl rfl rfl (htb _ q4) (htb _ q669) hd_M_throwing ⟨Nat.le_of_ble_eq_true rfl, Nat.le_of_ble_eq_true rfl⟩, (htb _ q671), (htb _ sel_M_throwing)⟩ ⟨rw_blind, va_recv (hK.sub (tys' := []) [] rfl) hP (ci := 3) (q0 := 0) rfl rfl, rw_pre hN (hP.sub (ws' := (wM am cm P G X)) [0, 1, 2, 3, 4, 5, 6, 7, 8, 9, 10, 11, 12, 13, 14] rfl) (hK.sub (tys' := (tM cm)) [0, 1, 2, 3, 4, 5, 6, 7, 8, 9, 10, 11, 12, 13] rfl) (hD.sub (ws' := (wM am cm P G X)) [0, 1, 2, 3, 4, 5, 6, 7, 8, 9, 10, 11, 12, 13, 14] (by decide) rfl)⟩ rfl rfl hl.1 rfl (lv_room (Nat.le_of_ble_eq_true rfl)) d_M_need_51 ⟨Nat.le_of_ble_eq_true rfl, Nat.le_of_ble_eq_true rfl⟩) hP hD hS hA [0, 1, 2, 3, 4, 5, 6, 7, 8, 9, 10, 11, 12, 13, 14] [] rfl rfl (by decide) (by decide) (fun r_4 u_4 H locs hr_4 hP hD hS => ?_)
    subst hr_4
    replace hP := hP.sub (ws' := wM am cm P G (up2 X 0 0 1)) [0, 1, 2, 3, 4, 5, 6, 7, 8, 9, 10, 11, 12, 13, 14] rfl
    replace hD := hD.sub (ws' := wM am cm P G (up2 X 0 0 1)) [0, 1, 2, 3, 4, 5, 6, 7, 8, 9, 10, 11, 12, 13, 14] (by decide) rfl
    refine nr_top (y := nI 1) rfl ?_
    refine nr_if_eq (tgt := 58) hx hb (by omega) d_M_need_54 (by decide) (fun c_54 => by exfalso; omega) (fun c_54 => ?_)
    exact W.vret hx hb hr (fun t ht hW => ⟨⟨(), rfl, trivial, by rw [ht]; exact hP, hD⟩, hS.F ht⟩) hS.2.2 d_M_need_57
  · refine lv_iload hx hb d_M_need_33 (lv_at hl 4 rfl) ?_
    refine nr_iconst hx hb 0 d_M_need_35 (by decide) ?_
    refine nr_bipush hx hb 15 d_M_need_36 (by decide) ?_
    refine nr_calli (va_runS (As := [.int y, .int (nI 0), .int (nI 15)]) (rest := [.int (nI 1), .ref (am 0)]) ⟨hx, hb, hml, hown, hts⟩ (c_M_in l D y (nI 0) (nI 15)) ⟨callB_of 3 hts (gTB q_M_in) rfl rfl rfl (htb _ q4) (htb _ q666) hd_M_in ⟨Nat.le_of_ble_eq_true rfl, Nat.le_of_ble_eq_true rfl⟩, (htb _ q667)⟩ ⟨ro_blind, ro_pre hN (hP.sub (ws' := []) [] rfl) (hK.sub (tys' := []) [] rfl)⟩ rfl rfl hl.1 rfl (lv_room (Nat.le_of_ble_eq_true rfl)) d_M_need_38 ⟨Nat.le_of_ble_eq_true rfl, Nat.le_of_ble_eq_true rfl⟩) (fun r_5 hr_5 => ?_)
    subst hr_5
    refine nr_if_ne (tgt := 48) hx hb b01_lt d_M_need_41 (by decide) (fun c_41 => ?_) (fun c_41 => ?_)
    · refine nr_iconst hx hb 0 d_M_need_48 (by decide) ?_
      refine nr_iconst hx hb 0 d_M_need_49 (by decide) ?_
      refine nr_iconst hx hb 0 d_M_need_50 (by decide) ?_
      refine nr_callwi (wr := ([] : va_W)) (va_runV (As := [.int (nI 1), .int (nI 0), .int (nI 0), .int (nI 0)]) (rest := []) ⟨hx, hb, hml, hown, hts⟩ (c_M_throwing l D am cm P G X 1 0 0 0 (by decide) (by decide) (by decide) (by decide) H.size) ⟨callB_of 4 hts (gTB q_M_throwing) rfl rfl rfl (htb _ q4) (htb _ q669) hd_M_throwing ⟨Nat.le_of_ble_eq_true rfl, Nat.le_of_ble_eq_true rfl⟩, (htb _ q671), (htb _ sel_M_throwing)⟩ ⟨rw_blind, va_recv (hK.sub (tys' := []) [] rfl) hP (ci := 3) (q0 := 0) rfl rfl, rw_pre hN (hP.sub (ws' := (wM am cm P G X)) [0, 1, 2, 3, 4, 5, 6, 7, 8, 9, 10, 11, 12, 13, 14] rfl) (hK.sub (tys' := (tM cm)) [0, 1, 2, 3, 4, 5, 6, 7, 8, 9, 10, 11, 12, 13] rfl) (hD.sub (ws' := (wM am cm P G X)) [0, 1, 2, 3, 4, 5, 6, 7, 8, 9, 10, 11, 12, 13, 14] (by decide) rfl)⟩ rfl rfl hl.1 rfl (lv_room (Nat.le_of_ble_eq_true rfl)) d_M_need_51 ⟨Nat.le_of_ble_eq_true rfl, Nat.le_of_ble_eq_true rfl⟩) hP hD hS hA [0, 1, 2, 3, 4, 5, 6, 7, 8, 9, 10, 11, 12, 13, 14] [] rfl rfl (by decide) (by decide) (fun r_6 u_6 H locs hr_6 hP hD hS => ?_)
      subst hr_6
      replace hP := hP.sub (ws' := wM am cm P G (up2 X 0 0 1)) [0, 1, 2, 3, 4, 5, 6, 7, 8, 9, 10, 11, 12, 13, 14] rfl
      replace hD := hD.sub (ws' := wM am cm P G (up2 X 0 0 1)) [0, 1, 2, 3, 4, 5, 6, 7, 8, 9, 10, 11, 12, 13, 14] (by decide) rfl
      refine nr_top (y := nI 1) rfl ?_
      refine nr_if_eq (tgt := 58) hx hb (by omega) d_M_need_54 (by decide) (fun c_54 => by exfalso; omega) (fun c_54 => ?_)
      exact W.vret hx hb hr (fun t ht hW => ⟨⟨(), rfl, trivial, by rw [ht]; exact hP, hD⟩, hS.F ht⟩) hS.2.2 d_M_need_57
    · refine nr_iconst hx hb 1 d_M_need_44 (by decide) ?_
      refine lv_goto (tgt := 49) hx hb d_M_need_45 (by decide) ?_
      refine nr_iconst hx hb 0 d_M_need_49 (by decide) ?_
      refine nr_iconst hx hb 0 d_M_need_50 (by decide) ?_
      refine nr_callwi (wr := ([] : va_W)) (va_runV (As := [.int (nI 1), .int (nI 1), .int (nI 0), .int (nI 0)]) (rest := []) ⟨hx, hb, hml, hown, hts⟩ (c_M_throwing l D am cm P G X 1 1 0 0 (by decide) (by decide) (by decide) (by decide) H.size) ⟨callB_of 4 hts (gTB q_M_throwing) rfl rfl rfl (htb _ q4) (htb _ q669) hd_M_throwing ⟨Nat.le_of_ble_eq_true rfl, Nat.le_of_ble_eq_true rfl⟩, (htb _ q671), (htb _ sel_M_throwing)⟩ ⟨rw_blind, va_recv (hK.sub (tys' := []) [] rfl) hP (ci := 3) (q0 := 0) rfl rfl, rw_pre hN (hP.sub (ws' := (wM am cm P G X)) [0, 1, 2, 3, 4, 5, 6, 7, 8, 9, 10, 11, 12, 13, 14] rfl) (hK.sub (tys' := (tM cm)) [0, 1, 2, 3, 4, 5, 6, 7, 8, 9, 10, 11, 12, 13] rfl) (hD.sub (ws' := (wM am cm P G X)) [0, 1, 2, 3, 4, 5, 6, 7, 8, 9, 10, 11, 12, 13, 14] (by decide) rfl)⟩ rfl rfl hl.1 rfl (lv_room (Nat.le_of_ble_eq_true rfl)) d_M_need_51 ⟨Nat.le_of_ble_eq_true rfl, Nat.le_of_ble_eq_true rfl⟩) hP hD hS hA [0, 1, 2, 3, 4, 5, 6, 7, 8, 9, 10, 11, 12, 13, 14] [] rfl rfl (by decide) (by decide) (fun r_7 u_7 H locs hr_7 hP hD hS => ?_)
      subst hr_7
      replace hP := hP.sub (ws' := wM am cm P G (up2 X 0 0 1)) [0, 1, 2, 3, 4, 5, 6, 7, 8, 9, 10, 11, 12, 13, 14] rfl
      replace hD := hD.sub (ws' := wM am cm P G (up2 X 0 0 1)) [0, 1, 2, 3, 4, 5, 6, 7, 8, 9, 10, 11, 12, 13, 14] (by decide) rfl
      refine nr_top (y := nI 1) rfl ?_
      refine nr_if_eq (tgt := 58) hx hb (by omega) d_M_need_54 (by decide) (fun c_54 => by exfalso; omega) (fun c_54 => ?_)
      exact W.vret hx hb hr (fun t ht hW => ⟨⟨(), rfl, trivial, by rw [ht]; exact hP, hD⟩, hS.F ht⟩) hS.2.2 d_M_need_57
set_option maxHeartbeats 4000000 in
set_option maxRecDepth 100000 in
theorem j_M_need_2a (l : Launch) (D : va_G) (am : Nat → Nat) (cm : Nat → ClassId) (P G X : Nat → Nat → Nat) (hP0 : okP P) (hG0 : okG G) (hX0 : okX X) (d sf : Nat) (x y : Int32) (h_d : (d < P 0 1)) (h_sf : (1 ≤ sf ∧ sf ≤ 3)) (hbad : decide (nI 0 ≤ x ∧ x ≤ nI 6) = false) (sz : Nat) : Met l y_M_need w_M_need { frames := 2, cells := 0, slots := 0, locals := 43 } (rw_P [.ref (am 0), .int (nI d), .int (nI sf), .int x, .int y] D (wM am cm P G X) (tM cm) sz) (rw_Qv (fun u : Unit => True) D (wM am cm P G X) (fun u => wM am cm P G (up2 X 0 0 2)) sz) 0 0 (va_A (wM am cm P G X) sz) := by
  refine Met.ofW (cc := b_M_need) (maxL := 5) (ret := none) (by decide) rfl ?_
  intro p e s m args below meth c s₁ B hml hv
  obtain ⟨rfl, hsz, hN, hP, hK, hD0⟩ := hv
  have hx := B.exec
  have hb := B.bytes
  have hr := B.returns
  have hts := atoms_spec (ws := w_M_need) B.pre
  have htb : ∀ w ∈ TBG, w.before [.ref (am 0), .int (nI d), .int (nI sf), .int x, .int y].toArray s = true := fun w h => hts w (List.mem_cons_of_mem _ h)
  have hown : s.vm.findClass R_M = some m.cls := findClass_of_methodNamed B.named
  have hlocks := B.notSynchronized
  subst hsz
  have hD := hD0.self (sz := s.heap.size)
  unfold rw_Qv
  generalize hAe : va_A (wM am cm P G X) s.heap.size = A at hD ⊢
  have hA : ∀ q : Nat, s.heap.size ≤ q → A q := fun q h => by rw [← hAe]; exact Or.inr h
  have hS : va_S A s.heap s.heap [] := va_S.rf
  have hl := lv_entry ([.ref (am 0), .int (nI d), .int (nI sf), .int x, .int y]) (n := 5) (Nat.le_of_ble_eq_true rfl)
  rw [lg_entry_eq]
  generalize (lg_sl ([.ref (am 0), .int (nI d), .int (nI sf), .int x, .int y]) ++ List.replicate (5 - (lg_sl ([.ref (am 0), .int (nI d), .int (nI sf), .int x, .int y])).length) Slot.unset).toArray = ls at hl ⊢
  have hl : lv_has ls 5 [(0, .ref (am 0)), (1, .int (nI d)), (2, .int (nI sf)), (3, .int x), (4, .int y)] := hl
  refine nr_start hP hS (fun H locs hP hS => ?_)
  obtain ⟨h00, h01, h02, h03, h04, h05, hp1, hp2, hp3, hp4, hp5, hp6⟩ := id hP0
  obtain ⟨k00, k01, hg1, hg2⟩ := id hG0
  obtain ⟨x00, x01, x02, x03, hx1, hx2, hx3, hx4, hx5, hx6, hx7⟩ := id hX0
  refine lv_aload_n hx hb d_M_need_0 rfl (lv_at hl 0 rfl) ?_
  refine lv_aload_n hx hb d_M_need_1 rfl (lv_at hl 0 rfl) ?_
  refine lv_iload_n hx hb d_M_need_2 rfl (lv_at hl 1 rfl) ?_
  refine nr_calli (va_runV (As := [.int (nI d)]) (rest := [.ref (am 0)]) ⟨hx, hb, hml, hown, hts⟩ (c_M_isDay l D am cm P G X (am 3) (cm 2) (G 1) hP0 hG0 hX0 hg1 (nI d)) ⟨callB_of 1 hts (gTB q_M_isDay) rfl rfl rfl (htb _ q4) (htb _ q681) hd_M_isDay ⟨Nat.le_of_ble_eq_true rfl, Nat.le_of_ble_eq_true rfl⟩, (htb _ q683), (htb _ sel_M_isDay)⟩ ⟨ro_blind, va_recv (hK.sub (tys' := []) [] rfl) hP (ci := 3) (q0 := 0) rfl rfl, ro_pre hN (hP.sub (ws' := (wMS am cm P G X (am 3) (cm 2) (G 1))) [0, 1, 2, 3, 4, 5, 6, 7, 8, 9, 10, 11, 12, 13, 14, 3] rfl) (hK.sub (tys' := (tMS cm (cm 2))) [0, 1, 2, 3, 4, 5, 6, 7, 8, 9, 10, 11, 12, 13, 2] rfl)⟩ rfl rfl hl.1 rfl (lv_room (Nat.le_of_ble_eq_true rfl)) d_M_need_3 ⟨Nat.le_of_ble_eq_true rfl, Nat.le_of_ble_eq_true rfl⟩) (fun r_1 hr_1 => ?_)
  subst hr_1
  refine nr_top (y := nI 1) (by rw [inR_n h_d (by omega)]; rfl) ?_
  refine nr_if_eq (tgt := 18) hx hb (by omega) d_M_need_6 (by decide) (fun c_6 => by exfalso; omega) (fun c_6 => ?_)
  refine lv_iload_n hx hb d_M_need_9 rfl (lv_at hl 2 rfl) ?_
  refine nr_iconst hx hb 1 d_M_need_10 (by decide) ?_
  refine nr_iconst hx hb 3 d_M_need_11 (by decide) ?_
  refine nr_calli (va_runS (As := [.int (nI sf), .int (nI 1), .int (nI 3)]) (rest := [.ref (am 0)]) ⟨hx, hb, hml, hown, hts⟩ (c_M_in l D (nI sf) (nI 1) (nI 3)) ⟨callB_of 3 hts (gTB q_M_in) rfl rfl rfl (htb _ q4) (htb _ q666) hd_M_in ⟨Nat.le_of_ble_eq_true rfl, Nat.le_of_ble_eq_true rfl⟩, (htb _ q667)⟩ ⟨ro_blind, ro_pre hN (hP.sub (ws' := []) [] rfl) (hK.sub (tys' := []) [] rfl)⟩ rfl rfl hl.1 rfl (lv_room (Nat.le_of_ble_eq_true rfl)) d_M_need_12 ⟨Nat.le_of_ble_eq_true rfl, Nat.le_of_ble_eq_true rfl⟩) (fun r_2 hr_2 => ?_)
  subst hr_2
  refine nr_top (y := nI 1) (by rw [in_n (h_sf).1 (h_sf).2 (by omega)]; rfl) ?_
  refine nr_if_ne (tgt := 22) hx hb (by omega) d_M_need_15 (by decide) (fun c_15 => ?_) (fun c_15 => by exfalso; omega)
  refine nr_iconst hx hb 0 d_M_need_22 (by decide) ?_
  refine lv_iload_n hx hb d_M_need_23 rfl (lv_at hl 3 rfl) ?_
  refine nr_iconst hx hb 0 d_M_need_24 (by decide) ?_
  refine nr_bipush hx hb 6 d_M_need_25 (by decide) ?_
  refine nr_calli (va_runS (As := [.int x, .int (nI 0), .int (nI 6)]) (rest := [.int (nI 0), .ref (am 0)]) ⟨hx, hb, hml, hown, hts⟩ (c_M_in l D x (nI 0) (nI 6)) ⟨callB_of 3 hts (gTB q_M_in) rfl rfl rfl (htb _ q4) (htb _ q666) hd_M_in ⟨Nat.le_of_ble_eq_true rfl, Nat.le_of_ble_eq_true rfl⟩, (htb _ q667)⟩ ⟨ro_blind, ro_pre hN (hP.sub (ws' := []) [] rfl) (hK.sub (tys' := []) [] rfl)⟩ rfl rfl hl.1 rfl (lv_room (Nat.le_of_ble_eq_true rfl)) d_M_need_27 ⟨Nat.le_of_ble_eq_true rfl, Nat.le_of_ble_eq_true rfl⟩) (fun r_3 hr_3 => ?_)
  subst hr_3
  refine nr_top (y := nI 0) (by rw [hbad]; rfl) ?_
  refine nr_if_eq (tgt := 44) hx hb (by omega) d_M_need_30 (by decide) (fun c_30 => ?_) (fun c_30 => by exfalso; omega)
  refine nr_iconst hx hb 1 d_M_need_44 (by decide) ?_
  refine lv_goto (tgt := 49) hx hb d_M_need_45 (by decide) ?_
  refine nr_iconst hx hb 0 d_M_need_49 (by decide) ?_
  refine nr_iconst hx hb 0 d_M_need_50 (by decide) ?_
  refine nr_callwi (wr := ([] : va_W)) (va_runV (As := [.int (nI 0), .int (nI 1), .int (nI 0), .int (nI 0)]) (rest := []) ⟨hx, hb, hml, hown, hts⟩ (c_M_throwing l D am cm P G X 0 1 0 0 (by decide) (by decide) (by decide) (by decide) H.size) ⟨callB_of 4 hts (gTB q_M_throwing) rfl rfl rfl (htb _ q4) (htb _ q669) hd_M_throwing ⟨Nat.le_of_ble_eq_true rfl, Nat.le_of_ble_eq_true rfl⟩, (htb _ q671), (htb _ sel_M_throwing)⟩ ⟨rw_blind, va_recv (hK.sub (tys' := []) [] rfl) hP (ci := 3) (q0 := 0) rfl rfl, rw_pre hN (hP.sub (ws' := (wM am cm P G X)) [0, 1, 2, 3, 4, 5, 6, 7, 8, 9, 10, 11, 12, 13, 14] rfl) (hK.sub (tys' := (tM cm)) [0, 1, 2, 3, 4, 5, 6, 7, 8, 9, 10, 11, 12, 13] rfl) (hD.sub (ws' := (wM am cm P G X)) [0, 1, 2, 3, 4, 5, 6, 7, 8, 9, 10, 11, 12, 13, 14] (by decide) rfl)⟩ rfl rfl hl.1 rfl (lv_room (Nat.le_of_ble_eq_true rfl)) d_M_need_51 ⟨Nat.le_of_ble_eq_true rfl, Nat.le_of_ble_eq_true rfl⟩) hP hD hS hA [0, 1, 2, 3, 4, 5, 6, 7, 8, 9, 10, 11, 12, 13, 14] [] rfl rfl (by decide) (by decide) (fun r_4 u_4 H locs hr_4 hP hD hS => ?_)
  subst hr_4
  replace hP := hP.sub (ws' := wM am cm P G (up2 X 0 0 2)) [0, 1, 2, 3, 4, 5, 6, 7, 8, 9, 10, 11, 12, 13, 14] rfl
  replace hD := hD.sub (ws' := wM am cm P G (up2 X 0 0 2)) [0, 1, 2, 3, 4, 5, 6, 7, 8, 9, 10, 11, 12, 13, 14] (by decide) rfl
  refine nr_top (y := nI 1) rfl ?_
  refine nr_if_eq (tgt := 58) hx hb (by omega) d_M_need_54 (by decide) (fun c_54 => by exfalso; omega) (fun c_54 => ?_)
  exact W.vret hx hb hr (fun t ht hW => ⟨⟨(), rfl, trivial, by rw [ht]; exact hP, hD⟩, hS.F ht⟩) hS.2.2 d_M_need_57
set_option maxHeartbeats 4000000 in
set_option maxRecDepth 100000 in
theorem j_M_need_2b (l : Launch) (D : va_G) (am : Nat → Nat) (cm : Nat → ClassId) (P G X : Nat → Nat → Nat) (hP0 : okP P) (hG0 : okG G) (hX0 : okX X) (d sf x : Nat) (y : Int32) (h_d : (d < P 0 1)) (h_sf : (1 ≤ sf ∧ sf ≤ 3)) (h_x : (0 ≤ x ∧ x ≤ 6)) (hbad : decide (nI 0 ≤ y ∧ y ≤ nI 15) = false) (sz : Nat) : Met l y_M_need w_M_need { frames := 2, cells := 0, slots := 0, locals := 43 } (rw_P [.ref (am 0), .int (nI d), .int (nI sf), .int (nI x), .int y] D (wM am cm P G X) (tM cm) sz) (rw_Qv (fun u : Unit => True) D (wM am cm P G X) (fun u => wM am cm P G (up2 X 0 0 2)) sz) 0 0 (va_A (wM am cm P G X) sz) := by
  refine Met.ofW (cc := b_M_need) (maxL := 5) (ret := none) (by decide) rfl ?_
  intro p e s m args below meth c s₁ B hml hv
  obtain ⟨rfl, hsz, hN, hP, hK, hD0⟩ := hv
  have hx := B.exec
  have hb := B.bytes
  have hr := B.returns
  have hts := atoms_spec (ws := w_M_need) B.pre
  have htb : ∀ w ∈ TBG, w.before [.ref (am 0), .int (nI d), .int (nI sf), .int (nI x), .int y].toArray s = true := fun w h => hts w (List.mem_cons_of_mem _ h)
  have hown : s.vm.findClass R_M = some m.cls := findClass_of_methodNamed B.named
  have hlocks := B.notSynchronized
  subst hsz
  have hD := hD0.self (sz := s.heap.size)
  unfold rw_Qv
  generalize hAe : va_A (wM am cm P G X) s.heap.size = A at hD ⊢
  have hA : ∀ q : Nat, s.heap.size ≤ q → A q := fun q h => by rw [← hAe]; exact Or.inr h
  have hS : va_S A s.heap s.heap [] := va_S.rf
  have hl := lv_entry ([.ref (am 0), .int (nI d), .int (nI sf), .int (nI x), .int y]) (n := 5) (Nat.le_of_ble_eq_true rfl)
  rw [lg_entry_eq]
  generalize (lg_sl ([.ref (am 0), .int (nI d), .int (nI sf), .int (nI x), .int y]) ++ List.replicate (5 - (lg_sl ([.ref (am 0), .int (nI d), .int (nI sf), .int (nI x), .int y])).length) Slot.unset).toArray = ls at hl ⊢
  have hl : lv_has ls 5 [(0, .ref (am 0)), (1, .int (nI d)), (2, .int (nI sf)), (3, .int (nI x)), (4, .int y)] := hl
  refine nr_start hP hS (fun H locs hP hS => ?_)
  obtain ⟨h00, h01, h02, h03, h04, h05, hp1, hp2, hp3, hp4, hp5, hp6⟩ := id hP0
  obtain ⟨k00, k01, hg1, hg2⟩ := id hG0
  obtain ⟨x00, x01, x02, x03, hx1, hx2, hx3, hx4, hx5, hx6, hx7⟩ := id hX0
  refine lv_aload_n hx hb d_M_need_0 rfl (lv_at hl 0 rfl) ?_
  refine lv_aload_n hx hb d_M_need_1 rfl (lv_at hl 0 rfl) ?_
  refine lv_iload_n hx hb d_M_need_2 rfl (lv_at hl 1 rfl) ?_
  refine nr_calli (va_runV (As := [.int (nI d)]) (rest := [.ref (am 0)]) ⟨hx, hb, hml, hown, hts⟩ (c_M_isDay l D am cm P G X (am 3) (cm 2) (G 1) hP0 hG0 hX0 hg1 (nI d)) ⟨callB_of 1 hts (gTB q_M_isDay) rfl rfl rfl (htb _ q4) (htb _ q681) hd_M_isDay ⟨Nat.le_of_ble_eq_true rfl, Nat.le_of_ble_eq_true rfl⟩, (htb _ q683), (htb _ sel_M_isDay)⟩ ⟨ro_blind, va_recv (hK.sub (tys' := []) [] rfl) hP (ci := 3) (q0 := 0) rfl rfl, ro_pre hN (hP.sub (ws' := (wMS am cm P G X (am 3) (cm 2) (G 1))) [0, 1, 2, 3, 4, 5, 6, 7, 8, 9, 10, 11, 12, 13, 14, 3] rfl) (hK.sub (tys' := (tMS cm (cm 2))) [0, 1, 2, 3, 4, 5, 6, 7, 8, 9, 10, 11, 12, 13, 2] rfl)⟩ rfl rfl hl.1 rfl (lv_room (Nat.le_of_ble_eq_true rfl)) d_M_need_3 ⟨Nat.le_of_ble_eq_true rfl, Nat.le_of_ble_eq_true rfl⟩) (fun r_1 hr_1 => ?_)
  subst hr_1
  refine nr_top (y := nI 1) (by rw [inR_n h_d (by omega)]; rfl) ?_
  refine nr_if_eq (tgt := 18) hx hb (by omega) d_M_need_6 (by decide) (fun c_6 => by exfalso; omega) (fun c_6 => ?_)
  refine lv_iload_n hx hb d_M_need_9 rfl (lv_at hl 2 rfl) ?_
  refine nr_iconst hx hb 1 d_M_need_10 (by decide) ?_
  refine nr_iconst hx hb 3 d_M_need_11 (by decide) ?_
  refine nr_calli (va_runS (As := [.int (nI sf), .int (nI 1), .int (nI 3)]) (rest := [.ref (am 0)]) ⟨hx, hb, hml, hown, hts⟩ (c_M_in l D (nI sf) (nI 1) (nI 3)) ⟨callB_of 3 hts (gTB q_M_in) rfl rfl rfl (htb _ q4) (htb _ q666) hd_M_in ⟨Nat.le_of_ble_eq_true rfl, Nat.le_of_ble_eq_true rfl⟩, (htb _ q667)⟩ ⟨ro_blind, ro_pre hN (hP.sub (ws' := []) [] rfl) (hK.sub (tys' := []) [] rfl)⟩ rfl rfl hl.1 rfl (lv_room (Nat.le_of_ble_eq_true rfl)) d_M_need_12 ⟨Nat.le_of_ble_eq_true rfl, Nat.le_of_ble_eq_true rfl⟩) (fun r_2 hr_2 => ?_)
  subst hr_2
  refine nr_top (y := nI 1) (by rw [in_n (h_sf).1 (h_sf).2 (by omega)]; rfl) ?_
  refine nr_if_ne (tgt := 22) hx hb (by omega) d_M_need_15 (by decide) (fun c_15 => ?_) (fun c_15 => by exfalso; omega)
  refine nr_iconst hx hb 0 d_M_need_22 (by decide) ?_
  refine lv_iload_n hx hb d_M_need_23 rfl (lv_at hl 3 rfl) ?_
  refine nr_iconst hx hb 0 d_M_need_24 (by decide) ?_
  refine nr_bipush hx hb 6 d_M_need_25 (by decide) ?_
  refine nr_calli (va_runS (As := [.int (nI x), .int (nI 0), .int (nI 6)]) (rest := [.int (nI 0), .ref (am 0)]) ⟨hx, hb, hml, hown, hts⟩ (c_M_in l D (nI x) (nI 0) (nI 6)) ⟨callB_of 3 hts (gTB q_M_in) rfl rfl rfl (htb _ q4) (htb _ q666) hd_M_in ⟨Nat.le_of_ble_eq_true rfl, Nat.le_of_ble_eq_true rfl⟩, (htb _ q667)⟩ ⟨ro_blind, ro_pre hN (hP.sub (ws' := []) [] rfl) (hK.sub (tys' := []) [] rfl)⟩ rfl rfl hl.1 rfl (lv_room (Nat.le_of_ble_eq_true rfl)) d_M_need_27 ⟨Nat.le_of_ble_eq_true rfl, Nat.le_of_ble_eq_true rfl⟩) (fun r_3 hr_3 => ?_)
  subst hr_3
  refine nr_top (y := nI 1) (by rw [in_n (h_x).1 (h_x).2 (by omega)]; rfl) ?_
  refine nr_if_eq (tgt := 44) hx hb (by omega) d_M_need_30 (by decide) (fun c_30 => by exfalso; omega) (fun c_30 => ?_)
  refine lv_iload hx hb d_M_need_33 (lv_at hl 4 rfl) ?_
  refine nr_iconst hx hb 0 d_M_need_35 (by decide) ?_
  refine nr_bipush hx hb 15 d_M_need_36 (by decide) ?_
  refine nr_calli (va_runS (As := [.int y, .int (nI 0), .int (nI 15)]) (rest := [.int (nI 0), .ref (am 0)]) ⟨hx, hb, hml, hown, hts⟩ (c_M_in l D y (nI 0) (nI 15)) ⟨callB_of 3 hts (gTB q_M_in) rfl rfl rfl (htb _ q4) (htb _ q666) hd_M_in ⟨Nat.le_of_ble_eq_true rfl, Nat.le_of_ble_eq_true rfl⟩, (htb _ q667)⟩ ⟨ro_blind, ro_pre hN (hP.sub (ws' := []) [] rfl) (hK.sub (tys' := []) [] rfl)⟩ rfl rfl hl.1 rfl (lv_room (Nat.le_of_ble_eq_true rfl)) d_M_need_38 ⟨Nat.le_of_ble_eq_true rfl, Nat.le_of_ble_eq_true rfl⟩) (fun r_4 hr_4 => ?_)
  subst hr_4
  refine nr_top (y := nI 0) (by rw [hbad]; rfl) ?_
  refine nr_if_ne (tgt := 48) hx hb (by omega) d_M_need_41 (by decide) (fun c_41 => by exfalso; omega) (fun c_41 => ?_)
  refine nr_iconst hx hb 1 d_M_need_44 (by decide) ?_
  refine lv_goto (tgt := 49) hx hb d_M_need_45 (by decide) ?_
  refine nr_iconst hx hb 0 d_M_need_49 (by decide) ?_
  refine nr_iconst hx hb 0 d_M_need_50 (by decide) ?_
  refine nr_callwi (wr := ([] : va_W)) (va_runV (As := [.int (nI 0), .int (nI 1), .int (nI 0), .int (nI 0)]) (rest := []) ⟨hx, hb, hml, hown, hts⟩ (c_M_throwing l D am cm P G X 0 1 0 0 (by decide) (by decide) (by decide) (by decide) H.size) ⟨callB_of 4 hts (gTB q_M_throwing) rfl rfl rfl (htb _ q4) (htb _ q669) hd_M_throwing ⟨Nat.le_of_ble_eq_true rfl, Nat.le_of_ble_eq_true rfl⟩, (htb _ q671), (htb _ sel_M_throwing)⟩ ⟨rw_blind, va_recv (hK.sub (tys' := []) [] rfl) hP (ci := 3) (q0 := 0) rfl rfl, rw_pre hN (hP.sub (ws' := (wM am cm P G X)) [0, 1, 2, 3, 4, 5, 6, 7, 8, 9, 10, 11, 12, 13, 14] rfl) (hK.sub (tys' := (tM cm)) [0, 1, 2, 3, 4, 5, 6, 7, 8, 9, 10, 11, 12, 13] rfl) (hD.sub (ws' := (wM am cm P G X)) [0, 1, 2, 3, 4, 5, 6, 7, 8, 9, 10, 11, 12, 13, 14] (by decide) rfl)⟩ rfl rfl hl.1 rfl (lv_room (Nat.le_of_ble_eq_true rfl)) d_M_need_51 ⟨Nat.le_of_ble_eq_true rfl, Nat.le_of_ble_eq_true rfl⟩) hP hD hS hA [0, 1, 2, 3, 4, 5, 6, 7, 8, 9, 10, 11, 12, 13, 14] [] rfl rfl (by decide) (by decide) (fun r_5 u_5 H locs hr_5 hP hD hS => ?_)
  subst hr_5
  replace hP := hP.sub (ws' := wM am cm P G (up2 X 0 0 2)) [0, 1, 2, 3, 4, 5, 6, 7, 8, 9, 10, 11, 12, 13, 14] rfl
  replace hD := hD.sub (ws' := wM am cm P G (up2 X 0 0 2)) [0, 1, 2, 3, 4, 5, 6, 7, 8, 9, 10, 11, 12, 13, 14] (by decide) rfl
  refine nr_top (y := nI 1) rfl ?_
  refine nr_if_eq (tgt := 58) hx hb (by omega) d_M_need_54 (by decide) (fun c_54 => by exfalso; omega) (fun c_54 => ?_)
  exact W.vret hx hb hr (fun t ht hW => ⟨⟨(), rfl, trivial, by rw [ht]; exact hP, hD⟩, hS.F ht⟩) hS.2.2 d_M_need_57
set_option maxHeartbeats 4000000 in
set_option maxRecDepth 100000 in
theorem j_M_rules_1a (l : Launch) (D : va_G) (am : Nat → Nat) (cm : Nat → ClassId) (P G X : Nat → Nat → Nat) (hP0 : okP P) (hG0 : okG G) (hX0 : okX X) (x y z : Int32) (hbad : decide (nI 0 ≤ x ∧ x ≤ nI 24) = false) (sz : Nat) : Met l y_M_rules w_M_rules { frames := 1, cells := 0, slots := 0, locals := 24 } (rw_P [.ref (am 0), .int x, .int y, .int z] D (wM am cm P G X) (tM cm) sz) (rw_Qv (fun u : Unit => True) D (wM am cm P G X) (fun u => wM am cm P G (up2 X 0 0 1)) sz) 0 0 (va_A (wM am cm P G X) sz) := by
  refine Met.ofW (cc := b_M_rules) (maxL := 4) (ret := none) (by decide) rfl ?_
  intro p e s m args below meth c s₁ B hml hv
  obtain ⟨rfl, hsz, hN, hP, hK, hD0⟩ := hv
  have hx := B.exec
  have hb := B.bytes
  have hr := B.returns
  have hts := atoms_spec (ws := w_M_rules) B.pre
  have htb : ∀ w ∈ TBG, w.before [.ref (am 0), .int x, .int y, .int z].toArray s = true := fun w h => hts w (List.mem_cons_of_mem _ h)
  have hown : s.vm.findClass R_M = some m.cls := findClass_of_methodNamed B.named
  have hlocks := B.notSynchronized
  subst hsz
  have hD := hD0.self (sz := s.heap.size)
  unfold rw_Qv
  generalize hAe : va_A (wM am cm P G X) s.heap.size = A at hD ⊢
  have hA : ∀ q : Nat, s.heap.size ≤ q → A q := fun q h => by rw [← hAe]; exact Or.inr h
  have hS : va_S A s.heap s.heap [] := va_S.rf
  have hl := lv_entry ([.ref (am 0), .int x, .int y, .int z]) (n := 4) (Nat.le_of_ble_eq_true rfl)
  rw [lg_entry_eq]
  generalize (lg_sl ([.ref (am 0), .int x, .int y, .int z]) ++ List.replicate (4 - (lg_sl ([.ref (am 0), .int x, .int y, .int z])).length) Slot.unset).toArray = ls at hl ⊢
  have hl : lv_has ls 4 [(0, .ref (am 0)), (1, .int x), (2, .int y), (3, .int z)] := hl
  refine nr_start hP hS (fun H locs hP hS => ?_)
  obtain ⟨h00, h01, h02, h03, h04, h05, hp1, hp2, hp3, hp4, hp5, hp6⟩ := id hP0
  obtain ⟨k00, k01, hg1, hg2⟩ := id hG0
  obtain ⟨x00, x01, x02, x03, hx1, hx2, hx3, hx4, hx5, hx6, hx7⟩ := id hX0
  refine lv_aload_n hx hb d_M_rules_0 rfl (lv_at hl 0 rfl) ?_
  refine lv_iload_n hx hb d_M_rules_1 rfl (lv_at hl 1 rfl) ?_
  refine nr_iconst hx hb 0 d_M_rules_2 (by decide) ?_
  refine nr_bipush hx hb 24 d_M_rules_3 (by decide) ?_
  refine nr_calli (va_runS (As := [.int x, .int (nI 0), .int (nI 24)]) (rest := [.ref (am 0)]) ⟨hx, hb, hml, hown, hts⟩ (c_M_in l D x (nI 0) (nI 24)) ⟨callB_of 3 hts (gTB q_M_in) rfl rfl rfl (htb _ q4) (htb _ q666) hd_M_in ⟨Nat.le_of_ble_eq_true rfl, Nat.le_of_ble_eq_true rfl⟩, (htb _ q667)⟩ ⟨ro_blind, ro_pre hN (hP.sub (ws' := []) [] rfl) (hK.sub (tys' := []) [] rfl)⟩ rfl rfl hl.1 rfl (lv_room (Nat.le_of_ble_eq_true rfl)) d_M_rules_5 ⟨Nat.le_of_ble_eq_true rfl, Nat.le_of_ble_eq_true rfl⟩) (fun r_1 hr_1 => ?_)
  subst hr_1
  refine nr_top (y := nI 0) (by rw [hbad]; rfl) ?_
  refine nr_if_eq (tgt := 31) hx hb (by omega) d_M_rules_8 (by decide) (fun c_8 => ?_) (fun c_8 => by exfalso; omega)
  refine nr_iconst hx hb 1 d_M_rules_31 (by decide) ?_
  refine lv_goto (tgt := 36) hx hb d_M_rules_32 (by decide) ?_
  refine nr_iconst hx hb 0 d_M_rules_36 (by decide) ?_
  refine nr_iconst hx hb 0 d_M_rules_37 (by decide) ?_
  refine nr_iconst hx hb 0 d_M_rules_38 (by decide) ?_
  refine nr_callwi (wr := ([] : va_W)) (va_runV (As := [.int (nI 1), .int (nI 0), .int (nI 0), .int (nI 0)]) (rest := []) ⟨hx, hb, hml, hown, hts⟩ (c_M_throwing l D am cm P G X 1 0 0 0 (by decide) (by decide) (by decide) (by decide) H.size) ⟨callB_of 4 hts (gTB q_M_throwing) rfl rfl rfl (htb _ q4) (htb _ q669) hd_M_throwing ⟨Nat.le_of_ble_eq_true rfl, Nat.le_of_ble_eq_true rfl⟩, (htb _ q671), (htb _ sel_M_throwing)⟩ ⟨rw_blind, va_recv (hK.sub (tys' := []) [] rfl) hP (ci := 3) (q0 := 0) rfl rfl, rw_pre hN (hP.sub (ws' := (wM am cm P G X)) [0, 1, 2, 3, 4, 5, 6, 7, 8, 9, 10, 11, 12, 13, 14] rfl) (hK.sub (tys' := (tM cm)) [0, 1, 2, 3, 4, 5, 6, 7, 8, 9, 10, 11, 12, 13] rfl) (hD.sub (ws' := (wM am cm P G X)) [0, 1, 2, 3, 4, 5, 6, 7, 8, 9, 10, 11, 12, 13, 14] (by decide) rfl)⟩ rfl rfl hl.1 rfl (lv_room (Nat.le_of_ble_eq_true rfl)) d_M_rules_39 ⟨Nat.le_of_ble_eq_true rfl, Nat.le_of_ble_eq_true rfl⟩) hP hD hS hA [0, 1, 2, 3, 4, 5, 6, 7, 8, 9, 10, 11, 12, 13, 14] [] rfl rfl (by decide) (by decide) (fun r_2 u_2 H locs hr_2 hP hD hS => ?_)
  subst hr_2
  replace hP := hP.sub (ws' := wM am cm P G (up2 X 0 0 1)) [0, 1, 2, 3, 4, 5, 6, 7, 8, 9, 10, 11, 12, 13, 14] rfl
  replace hD := hD.sub (ws' := wM am cm P G (up2 X 0 0 1)) [0, 1, 2, 3, 4, 5, 6, 7, 8, 9, 10, 11, 12, 13, 14] (by decide) rfl
  refine nr_top (y := nI 1) rfl ?_
  refine nr_if_eq (tgt := 46) hx hb (by omega) d_M_rules_42 (by decide) (fun c_42 => by exfalso; omega) (fun c_42 => ?_)
  exact W.vret hx hb hr (fun t ht hW => ⟨⟨(), rfl, trivial, by rw [ht]; exact hP, hD⟩, hS.F ht⟩) hS.2.2 d_M_rules_45
set_option maxHeartbeats 4000000 in
set_option maxRecDepth 100000 in
theorem j_M_rules_1b (l : Launch) (D : va_G) (am : Nat → Nat) (cm : Nat → ClassId) (P G X : Nat → Nat → Nat) (hP0 : okP P) (hG0 : okG G) (hX0 : okX X) (x : Nat) (y z : Int32) (h_x : (0 ≤ x ∧ x ≤ 24)) (hbad : decide (nI 0 ≤ y ∧ y ≤ nI 7) = false) (sz : Nat) : Met l y_M_rules w_M_rules { frames := 1, cells := 0, slots := 0, locals := 24 } (rw_P [.ref (am 0), .int (nI x), .int y, .int z] D (wM am cm P G X) (tM cm) sz) (rw_Qv (fun u : Unit => True) D (wM am cm P G X) (fun u => wM am cm P G (up2 X 0 0 1)) sz) 0 0 (va_A (wM am cm P G X) sz) := by
  refine Met.ofW (cc := b_M_rules) (maxL := 4) (ret := none) (by decide) rfl ?_
  intro p e s m args below meth c s₁ B hml hv
  obtain ⟨rfl, hsz, hN, hP, hK, hD0⟩ := hv
  have hx := B.exec
  have hb := B.bytes
  have hr := B.returns
  have hts := atoms_spec (ws := w_M_rules) B.pre
  have htb : ∀ w ∈ TBG, w.before [.ref (am 0), .int (nI x), .int y, .int z].toArray s = true := fun w h => hts w (List.mem_cons_of_mem _ h)
  have hown : s.vm.findClass R_M = some m.cls := findClass_of_methodNamed B.named
  have hlocks := B.notSynchronized
  subst hsz
  have hD := hD0.self (sz := s.heap.size)
  unfold rw_Qv
  generalize hAe : va_A (wM am cm P G X) s.heap.size = A at hD ⊢
  have hA : ∀ q : Nat, s.heap.size ≤ q → A q := fun q h => by rw [← hAe]; exact Or.inr h
  have hS : va_S A s.heap s.heap [] := va_S.rf
  have hl := lv_entry ([.ref (am 0), .int (nI x), .int y, .int z]) (n := 4) (Nat.le_of_ble_eq_true rfl)
  rw [lg_entry_eq]
  generalize (lg_sl ([.ref (am 0), .int (nI x), .int y, .int z]) ++ List.replicate (4 - (lg_sl ([.ref (am 0), .int (nI x), .int y, .int z])).length) Slot.unset).toArray = ls at hl ⊢
  have hl : lv_has ls 4 [(0, .ref (am 0)), (1, .int (nI x)), (2, .int y), (3, .int z)] := hl
  refine nr_start hP hS (fun H locs hP hS => ?_)
  obtain ⟨h00, h01, h02, h03, h04, h05, hp1, hp2, hp3, hp4, hp5, hp6⟩ := id hP0
  obtain ⟨k00, k01, hg1, hg2⟩ := id hG0
  obtain ⟨x00, x01, x02, x03, hx1, hx2, hx3, hx4, hx5, hx6, hx7⟩ := id hX0
  refine lv_aload_n hx hb d_M_rules_0 rfl (lv_at hl 0 rfl) ?_
  refine lv_iload_n hx hb d_M_rules_1 rfl (lv_at hl 1 rfl) ?_
  refine nr_iconst hx hb 0 d_M_rules_2 (by decide) ?_
  refine nr_bipush hx hb 24 d_M_rules_3 (by decide) ?_
  refine nr_calli (va_runS (As := [.int (nI x), .int (nI 0), .int (nI 24)]) (rest := [.ref (am 0)]) ⟨hx, hb, hml, hown, hts⟩ (c_M_in l D (nI x) (nI 0) (nI 24)) ⟨callB_of 3 hts (gTB q_M_in) rfl rfl rfl (htb _ q4) (htb _ q666) hd_M_in ⟨Nat.le_of_ble_eq_true rfl, Nat.le_of_ble_eq_true rfl⟩, (htb _ q667)⟩ ⟨ro_blind, ro_pre hN (hP.sub (ws' := []) [] rfl) (hK.sub (tys' := []) [] rfl)⟩ rfl rfl hl.1 rfl (lv_room (Nat.le_of_ble_eq_true rfl)) d_M_rules_5 ⟨Nat.le_of_ble_eq_true rfl, Nat.le_of_ble_eq_true rfl⟩) (fun r_1 hr_1 => ?_)
  subst hr_1
  refine nr_top (y := nI 1) (by rw [in_n (h_x).1 (h_x).2 (by omega)]; rfl) ?_
  refine nr_if_eq (tgt := 31) hx hb (by omega) d_M_rules_8 (by decide) (fun c_8 => by exfalso; omega) (fun c_8 => ?_)
  refine lv_iload_n hx hb d_M_rules_11 rfl (lv_at hl 2 rfl) ?_
  refine nr_iconst hx hb 0 d_M_rules_12 (by decide) ?_
  refine nr_bipush hx hb 7 d_M_rules_13 (by decide) ?_
  refine nr_calli (va_runS (As := [.int y, .int (nI 0), .int (nI 7)]) (rest := [.ref (am 0)]) ⟨hx, hb, hml, hown, hts⟩ (c_M_in l D y (nI 0) (nI 7)) ⟨callB_of 3 hts (gTB q_M_in) rfl rfl rfl (htb _ q4) (htb _ q666) hd_M_in ⟨Nat.le_of_ble_eq_true rfl, Nat.le_of_ble_eq_true rfl⟩, (htb _ q667)⟩ ⟨ro_blind, ro_pre hN (hP.sub (ws' := []) [] rfl) (hK.sub (tys' := []) [] rfl)⟩ rfl rfl hl.1 rfl (lv_room (Nat.le_of_ble_eq_true rfl)) d_M_rules_15 ⟨Nat.le_of_ble_eq_true rfl, Nat.le_of_ble_eq_true rfl⟩) (fun r_2 hr_2 => ?_)
  subst hr_2
  refine nr_top (y := nI 0) (by rw [hbad]; rfl) ?_
  refine nr_if_eq (tgt := 31) hx hb (by omega) d_M_rules_18 (by decide) (fun c_18 => ?_) (fun c_18 => by exfalso; omega)
  refine nr_iconst hx hb 1 d_M_rules_31 (by decide) ?_
  refine lv_goto (tgt := 36) hx hb d_M_rules_32 (by decide) ?_
  refine nr_iconst hx hb 0 d_M_rules_36 (by decide) ?_
  refine nr_iconst hx hb 0 d_M_rules_37 (by decide) ?_
  refine nr_iconst hx hb 0 d_M_rules_38 (by decide) ?_
  refine nr_callwi (wr := ([] : va_W)) (va_runV (As := [.int (nI 1), .int (nI 0), .int (nI 0), .int (nI 0)]) (rest := []) ⟨hx, hb, hml, hown, hts⟩ (c_M_throwing l D am cm P G X 1 0 0 0 (by decide) (by decide) (by decide) (by decide) H.size) ⟨callB_of 4 hts (gTB q_M_throwing) rfl rfl rfl (htb _ q4) (htb _ q669) hd_M_throwing ⟨Nat.le_of_ble_eq_true rfl, Nat.le_of_ble_eq_true rfl⟩, (htb _ q671), (htb _ sel_M_throwing)⟩ ⟨rw_blind, va_recv (hK.sub (tys' := []) [] rfl) hP (ci := 3) (q0 := 0) rfl rfl, rw_pre hN (hP.sub (ws' := (wM am cm P G X)) [0, 1, 2, 3, 4, 5, 6, 7, 8, 9, 10, 11, 12, 13, 14] rfl) (hK.sub (tys' := (tM cm)) [0, 1, 2, 3, 4, 5, 6, 7, 8, 9, 10, 11, 12, 13] rfl) (hD.sub (ws' := (wM am cm P G X)) [0, 1, 2, 3, 4, 5, 6, 7, 8, 9, 10, 11, 12, 13, 14] (by decide) rfl)⟩ rfl rfl hl.1 rfl (lv_room (Nat.le_of_ble_eq_true rfl)) d_M_rules_39 ⟨Nat.le_of_ble_eq_true rfl, Nat.le_of_ble_eq_true rfl⟩) hP hD hS hA [0, 1, 2, 3, 4, 5, 6, 7, 8, 9, 10, 11, 12, 13, 14] [] rfl rfl (by decide) (by decide) (fun r_3 u_3 H locs hr_3 hP hD hS => ?_)
  subst hr_3
  replace hP := hP.sub (ws' := wM am cm P G (up2 X 0 0 1)) [0, 1, 2, 3, 4, 5, 6, 7, 8, 9, 10, 11, 12, 13, 14] rfl
  replace hD := hD.sub (ws' := wM am cm P G (up2 X 0 0 1)) [0, 1, 2, 3, 4, 5, 6, 7, 8, 9, 10, 11, 12, 13, 14] (by decide) rfl
  refine nr_top (y := nI 1) rfl ?_
  refine nr_if_eq (tgt := 46) hx hb (by omega) d_M_rules_42 (by decide) (fun c_42 => by exfalso; omega) (fun c_42 => ?_)
  exact W.vret hx hb hr (fun t ht hW => ⟨⟨(), rfl, trivial, by rw [ht]; exact hP, hD⟩, hS.F ht⟩) hS.2.2 d_M_rules_45
set_option maxHeartbeats 4000000 in
set_option maxRecDepth 100000 in
theorem j_M_rules_1c (l : Launch) (D : va_G) (am : Nat → Nat) (cm : Nat → ClassId) (P G X : Nat → Nat → Nat) (hP0 : okP P) (hG0 : okG G) (hX0 : okX X) (x y : Nat) (z : Int32) (h_x : (0 ≤ x ∧ x ≤ 24)) (h_y : (0 ≤ y ∧ y ≤ 7)) (hbad : decide (nI 0 ≤ z ∧ z ≤ nI 7) = false) (sz : Nat) : Met l y_M_rules w_M_rules { frames := 1, cells := 0, slots := 0, locals := 24 } (rw_P [.ref (am 0), .int (nI x), .int (nI y), .int z] D (wM am cm P G X) (tM cm) sz) (rw_Qv (fun u : Unit => True) D (wM am cm P G X) (fun u => wM am cm P G (up2 X 0 0 1)) sz) 0 0 (va_A (wM am cm P G X) sz) := by
  refine Met.ofW (cc := b_M_rules) (maxL := 4) (ret := none) (by decide) rfl ?_
  intro p e s m args below meth c s₁ B hml hv
  obtain ⟨rfl, hsz, hN, hP, hK, hD0⟩ := hv
  have hx := B.exec
  have hb := B.bytes
  have hr := B.returns
  have hts := atoms_spec (ws := w_M_rules) B.pre
  have htb : ∀ w ∈ TBG, w.before [.ref (am 0), .int (nI x), .int (nI y), .int z].toArray s = true := fun w h => hts w (List.mem_cons_of_mem _ h)
  have hown : s.vm.findClass R_M = some m.cls := findClass_of_methodNamed B.named
  have hlocks := B.notSynchronized
  subst hsz
  have hD := hD0.self (sz := s.heap.size)
  unfold rw_Qv
  generalize hAe : va_A (wM am cm P G X) s.heap.size = A at hD ⊢
  have hA : ∀ q : Nat, s.heap.size ≤ q → A q := fun q h => by rw [← hAe]; exact Or.inr h
  have hS : va_S A s.heap s.heap [] := va_S.rf
  have hl := lv_entry ([.ref (am 0), .int (nI x), .int (nI y), .int z]) (n := 4) (Nat.le_of_ble_eq_true rfl)
  rw [lg_entry_eq]
  generalize (lg_sl ([.ref (am 0), .int (nI x), .int (nI y), .int z]) ++ List.replicate (4 - (lg_sl ([.ref (am 0), .int (nI x), .int (nI y), .int z])).length) Slot.unset).toArray = ls at hl ⊢
  have hl : lv_has ls 4 [(0, .ref (am 0)), (1, .int (nI x)), (2, .int (nI y)), (3, .int z)] := hl
  refine nr_start hP hS (fun H locs hP hS => ?_)
  obtain ⟨h00, h01, h02, h03, h04, h05, hp1, hp2, hp3, hp4, hp5, hp6⟩ := id hP0
  obtain ⟨k00, k01, hg1, hg2⟩ := id hG0
  obtain ⟨x00, x01, x02, x03, hx1, hx2, hx3, hx4, hx5, hx6, hx7⟩ := id hX0
  refine lv_aload_n hx hb d_M_rules_0 rfl (lv_at hl 0 rfl) ?_
  refine lv_iload_n hx hb d_M_rules_1 rfl (lv_at hl 1 rfl) ?_
  refine nr_iconst hx hb 0 d_M_rules_2 (by decide) ?_
  refine nr_bipush hx hb 24 d_M_rules_3 (by decide) ?_
  refine nr_calli (va_runS (As := [.int (nI x), .int (nI 0), .int (nI 24)]) (rest := [.ref (am 0)]) ⟨hx, hb, hml, hown, hts⟩ (c_M_in l D (nI x) (nI 0) (nI 24)) ⟨callB_of 3 hts (gTB q_M_in) rfl rfl rfl (htb _ q4) (htb _ q666) hd_M_in ⟨Nat.le_of_ble_eq_true rfl, Nat.le_of_ble_eq_true rfl⟩, (htb _ q667)⟩ ⟨ro_blind, ro_pre hN (hP.sub (ws' := []) [] rfl) (hK.sub (tys' := []) [] rfl)⟩ rfl rfl hl.1 rfl (lv_room (Nat.le_of_ble_eq_true rfl)) d_M_rules_5 ⟨Nat.le_of_ble_eq_true rfl, Nat.le_of_ble_eq_true rfl⟩) (fun r_1 hr_1 => ?_)
  subst hr_1
  refine nr_top (y := nI 1) (by rw [in_n (h_x).1 (h_x).2 (by omega)]; rfl) ?_
  refine nr_if_eq (tgt := 31) hx hb (by omega) d_M_rules_8 (by decide) (fun c_8 => by exfalso; omega) (fun c_8 => ?_)
  refine lv_iload_n hx hb d_M_rules_11 rfl (lv_at hl 2 rfl) ?_
  refine nr_iconst hx hb 0 d_M_rules_12 (by decide) ?_
  refine nr_bipush hx hb 7 d_M_rules_13 (by decide) ?_
  refine nr_calli (va_runS (As := [.int (nI y), .int (nI 0), .int (nI 7)]) (rest := [.ref (am 0)]) ⟨hx, hb, hml, hown, hts⟩ (c_M_in l D (nI y) (nI 0) (nI 7)) ⟨callB_of 3 hts (gTB q_M_in) rfl rfl rfl (htb _ q4) (htb _ q666) hd_M_in ⟨Nat.le_of_ble_eq_true rfl, Nat.le_of_ble_eq_true rfl⟩, (htb _ q667)⟩ ⟨ro_blind, ro_pre hN (hP.sub (ws' := []) [] rfl) (hK.sub (tys' := []) [] rfl)⟩ rfl rfl hl.1 rfl (lv_room (Nat.le_of_ble_eq_true rfl)) d_M_rules_15 ⟨Nat.le_of_ble_eq_true rfl, Nat.le_of_ble_eq_true rfl⟩) (fun r_2 hr_2 => ?_)
  subst hr_2
  refine nr_top (y := nI 1) (by rw [in_n (h_y).1 (h_y).2 (by omega)]; rfl) ?_
  refine nr_if_eq (tgt := 31) hx hb (by omega) d_M_rules_18 (by decide) (fun c_18 => by exfalso; omega) (fun c_18 => ?_)
  refine lv_iload_n hx hb d_M_rules_21 rfl (lv_at hl 3 rfl) ?_
  refine nr_iconst hx hb 0 d_M_rules_22 (by decide) ?_
  refine nr_bipush hx hb 7 d_M_rules_23 (by decide) ?_
  refine nr_calli (va_runS (As := [.int z, .int (nI 0), .int (nI 7)]) (rest := [.ref (am 0)]) ⟨hx, hb, hml, hown, hts⟩ (c_M_in l D z (nI 0) (nI 7)) ⟨callB_of 3 hts (gTB q_M_in) rfl rfl rfl (htb _ q4) (htb _ q666) hd_M_in ⟨Nat.le_of_ble_eq_true rfl, Nat.le_of_ble_eq_true rfl⟩, (htb _ q667)⟩ ⟨ro_blind, ro_pre hN (hP.sub (ws' := []) [] rfl) (hK.sub (tys' := []) [] rfl)⟩ rfl rfl hl.1 rfl (lv_room (Nat.le_of_ble_eq_true rfl)) d_M_rules_25 ⟨Nat.le_of_ble_eq_true rfl, Nat.le_of_ble_eq_true rfl⟩) (fun r_3 hr_3 => ?_)
  subst hr_3
  refine nr_top (y := nI 0) (by rw [hbad]; rfl) ?_
  refine nr_if_ne (tgt := 35) hx hb (by omega) d_M_rules_28 (by decide) (fun c_28 => by exfalso; omega) (fun c_28 => ?_)
  refine nr_iconst hx hb 1 d_M_rules_31 (by decide) ?_
  refine lv_goto (tgt := 36) hx hb d_M_rules_32 (by decide) ?_
  refine nr_iconst hx hb 0 d_M_rules_36 (by decide) ?_
  refine nr_iconst hx hb 0 d_M_rules_37 (by decide) ?_
  refine nr_iconst hx hb 0 d_M_rules_38 (by decide) ?_
  refine nr_callwi (wr := ([] : va_W)) (va_runV (As := [.int (nI 1), .int (nI 0), .int (nI 0), .int (nI 0)]) (rest := []) ⟨hx, hb, hml, hown, hts⟩ (c_M_throwing l D am cm P G X 1 0 0 0 (by decide) (by decide) (by decide) (by decide) H.size) ⟨callB_of 4 hts (gTB q_M_throwing) rfl rfl rfl (htb _ q4) (htb _ q669) hd_M_throwing ⟨Nat.le_of_ble_eq_true rfl, Nat.le_of_ble_eq_true rfl⟩, (htb _ q671), (htb _ sel_M_throwing)⟩ ⟨rw_blind, va_recv (hK.sub (tys' := []) [] rfl) hP (ci := 3) (q0 := 0) rfl rfl, rw_pre hN (hP.sub (ws' := (wM am cm P G X)) [0, 1, 2, 3, 4, 5, 6, 7, 8, 9, 10, 11, 12, 13, 14] rfl) (hK.sub (tys' := (tM cm)) [0, 1, 2, 3, 4, 5, 6, 7, 8, 9, 10, 11, 12, 13] rfl) (hD.sub (ws' := (wM am cm P G X)) [0, 1, 2, 3, 4, 5, 6, 7, 8, 9, 10, 11, 12, 13, 14] (by decide) rfl)⟩ rfl rfl hl.1 rfl (lv_room (Nat.le_of_ble_eq_true rfl)) d_M_rules_39 ⟨Nat.le_of_ble_eq_true rfl, Nat.le_of_ble_eq_true rfl⟩) hP hD hS hA [0, 1, 2, 3, 4, 5, 6, 7, 8, 9, 10, 11, 12, 13, 14] [] rfl rfl (by decide) (by decide) (fun r_4 u_4 H locs hr_4 hP hD hS => ?_)
  subst hr_4
  replace hP := hP.sub (ws' := wM am cm P G (up2 X 0 0 1)) [0, 1, 2, 3, 4, 5, 6, 7, 8, 9, 10, 11, 12, 13, 14] rfl
  replace hD := hD.sub (ws' := wM am cm P G (up2 X 0 0 1)) [0, 1, 2, 3, 4, 5, 6, 7, 8, 9, 10, 11, 12, 13, 14] (by decide) rfl
  refine nr_top (y := nI 1) rfl ?_
  refine nr_if_eq (tgt := 46) hx hb (by omega) d_M_rules_42 (by decide) (fun c_42 => by exfalso; omega) (fun c_42 => ?_)
  exact W.vret hx hb hr (fun t ht hW => ⟨⟨(), rfl, trivial, by rw [ht]; exact hP, hD⟩, hS.F ht⟩) hS.2.2 d_M_rules_45
set_option maxHeartbeats 4000000 in
set_option maxRecDepth 100000 in
theorem j_M_bar_1a (l : Launch) (D : va_G) (am : Nat → Nat) (cm : Nat → ClassId) (P G X : Nat → Nat → Nat) (hP0 : okP P) (hG0 : okG G) (hX0 : okX X) (b : Nat) (p1 d sf : Int32) (h_b : b ≤ 1) (hbad : inR p1 (P 0 0) = false) (sz : Nat) : Met l y_M_bar w_M_bar { frames := 2, cells := 0, slots := 0, locals := 43 } (rw_P [.ref (am 0), .int p1, .int d, .int sf, .int (nI b)] D (wM am cm P G X) (tM cm) sz) (rw_Qv (fun u : Unit => True) D (wM am cm P G X) (fun u => wM am cm P G (up2 X 0 0 1)) sz) 0 0 (va_A (wM am cm P G X) sz) := by
  refine Met.ofW (cc := b_M_bar) (maxL := 5) (ret := none) (by decide) rfl ?_
  intro p e s m args below meth c s₁ B hml hv
  obtain ⟨rfl, hsz, hN, hP, hK, hD0⟩ := hv
  have hx := B.exec
  have hb := B.bytes
  have hr := B.returns
  have hts := atoms_spec (ws := w_M_bar) B.pre
  have htb : ∀ w ∈ TBG, w.before [.ref (am 0), .int p1, .int d, .int sf, .int (nI b)].toArray s = true := fun w h => hts w (List.mem_cons_of_mem _ h)
  have hown : s.vm.findClass R_M = some m.cls := findClass_of_methodNamed B.named
  have hlocks := B.notSynchronized
  subst hsz
  have hD := hD0.self (sz := s.heap.size)
  unfold rw_Qv
  generalize hAe : va_A (wM am cm P G X) s.heap.size = A at hD ⊢
  have hA : ∀ q : Nat, s.heap.size ≤ q → A q := fun q h => by rw [← hAe]; exact Or.inr h
  have hS : va_S A s.heap s.heap [] := va_S.rf
  have hl := lv_entry ([.ref (am 0), .int p1, .int d, .int sf, .int (nI b)]) (n := 5) (Nat.le_of_ble_eq_true rfl)
  rw [lg_entry_eq]
  generalize (lg_sl ([.ref (am 0), .int p1, .int d, .int sf, .int (nI b)]) ++ List.replicate (5 - (lg_sl ([.ref (am 0), .int p1, .int d, .int sf, .int (nI b)])).length) Slot.unset).toArray = ls at hl ⊢
  have hl : lv_has ls 5 [(0, .ref (am 0)), (1, .int p1), (2, .int d), (3, .int sf), (4, .int (nI b))] := hl
  refine nr_start hP hS (fun H locs hP hS => ?_)
  obtain ⟨h00, h01, h02, h03, h04, h05, hp1, hp2, hp3, hp4, hp5, hp6⟩ := id hP0
  obtain ⟨k00, k01, hg1, hg2⟩ := id hG0
  obtain ⟨x00, x01, x02, x03, hx1, hx2, hx3, hx4, hx5, hx6, hx7⟩ := id hX0
  refine lv_aload_n hx hb d_M_bar_0 rfl (lv_at hl 0 rfl) ?_
  refine lv_aload_n hx hb d_M_bar_1 rfl (lv_at hl 0 rfl) ?_
  refine lv_iload_n hx hb d_M_bar_2 rfl (lv_at hl 1 rfl) ?_
  refine nr_calli (va_runV (As := [.int p1]) (rest := [.ref (am 0)]) ⟨hx, hb, hml, hown, hts⟩ (c_M_isPerson l D am cm P G X (am 3) (cm 2) (G 1) hP0 hG0 hX0 hg1 p1) ⟨callB_of 1 hts (gTB q_M_isPerson) rfl rfl rfl (htb _ q4) (htb _ q693) hd_M_isPerson ⟨Nat.le_of_ble_eq_true rfl, Nat.le_of_ble_eq_true rfl⟩, (htb _ q695), (htb _ sel_M_isPerson)⟩ ⟨ro_blind, va_recv (hK.sub (tys' := []) [] rfl) hP (ci := 3) (q0 := 0) rfl rfl, ro_pre hN (hP.sub (ws' := (wMS am cm P G X (am 3) (cm 2) (G 1))) [0, 1, 2, 3, 4, 5, 6, 7, 8, 9, 10, 11, 12, 13, 14, 3] rfl) (hK.sub (tys' := (tMS cm (cm 2))) [0, 1, 2, 3, 4, 5, 6, 7, 8, 9, 10, 11, 12, 13, 2] rfl)⟩ rfl rfl hl.1 rfl (lv_room (Nat.le_of_ble_eq_true rfl)) d_M_bar_3 ⟨Nat.le_of_ble_eq_true rfl, Nat.le_of_ble_eq_true rfl⟩) (fun r_1 hr_1 => ?_)
  subst hr_1
  refine nr_top (y := nI 0) (by rw [hbad]; rfl) ?_
  refine nr_if_eq (tgt := 26) hx hb (by omega) d_M_bar_6 (by decide) (fun c_6 => ?_) (fun c_6 => by exfalso; omega)
  refine nr_iconst hx hb 1 d_M_bar_26 (by decide) ?_
  refine lv_goto (tgt := 31) hx hb d_M_bar_27 (by decide) ?_
  refine nr_iconst hx hb 0 d_M_bar_31 (by decide) ?_
  refine nr_iconst hx hb 0 d_M_bar_32 (by decide) ?_
  refine nr_iconst hx hb 0 d_M_bar_33 (by decide) ?_
  refine nr_callwi (wr := ([] : va_W)) (va_runV (As := [.int (nI 1), .int (nI 0), .int (nI 0), .int (nI 0)]) (rest := []) ⟨hx, hb, hml, hown, hts⟩ (c_M_throwing l D am cm P G X 1 0 0 0 (by decide) (by decide) (by decide) (by decide) H.size) ⟨callB_of 4 hts (gTB q_M_throwing) rfl rfl rfl (htb _ q4) (htb _ q669) hd_M_throwing ⟨Nat.le_of_ble_eq_true rfl, Nat.le_of_ble_eq_true rfl⟩, (htb _ q671), (htb _ sel_M_throwing)⟩ ⟨rw_blind, va_recv (hK.sub (tys' := []) [] rfl) hP (ci := 3) (q0 := 0) rfl rfl, rw_pre hN (hP.sub (ws' := (wM am cm P G X)) [0, 1, 2, 3, 4, 5, 6, 7, 8, 9, 10, 11, 12, 13, 14] rfl) (hK.sub (tys' := (tM cm)) [0, 1, 2, 3, 4, 5, 6, 7, 8, 9, 10, 11, 12, 13] rfl) (hD.sub (ws' := (wM am cm P G X)) [0, 1, 2, 3, 4, 5, 6, 7, 8, 9, 10, 11, 12, 13, 14] (by decide) rfl)⟩ rfl rfl hl.1 rfl (lv_room (Nat.le_of_ble_eq_true rfl)) d_M_bar_34 ⟨Nat.le_of_ble_eq_true rfl, Nat.le_of_ble_eq_true rfl⟩) hP hD hS hA [0, 1, 2, 3, 4, 5, 6, 7, 8, 9, 10, 11, 12, 13, 14] [] rfl rfl (by decide) (by decide) (fun r_2 u_2 H locs hr_2 hP hD hS => ?_)
  subst hr_2
  replace hP := hP.sub (ws' := wM am cm P G (up2 X 0 0 1)) [0, 1, 2, 3, 4, 5, 6, 7, 8, 9, 10, 11, 12, 13, 14] rfl
  replace hD := hD.sub (ws' := wM am cm P G (up2 X 0 0 1)) [0, 1, 2, 3, 4, 5, 6, 7, 8, 9, 10, 11, 12, 13, 14] (by decide) rfl
  refine nr_top (y := nI 1) rfl ?_
  refine nr_if_eq (tgt := 41) hx hb (by omega) d_M_bar_37 (by decide) (fun c_37 => by exfalso; omega) (fun c_37 => ?_)
  exact W.vret hx hb hr (fun t ht hW => ⟨⟨(), rfl, trivial, by rw [ht]; exact hP, hD⟩, hS.F ht⟩) hS.2.2 d_M_bar_40
set_option maxHeartbeats 4000000 in
set_option maxRecDepth 100000 in
theorem j_M_bar_1b (l : Launch) (D : va_G) (am : Nat → Nat) (cm : Nat → ClassId) (P G X : Nat → Nat → Nat) (hP0 : okP P) (hG0 : okG G) (hX0 : okX X) (p1 b : Nat) (d sf : Int32) (h_p1 : (p1 < P 0 0)) (h_b : b ≤ 1) (hbad : inR d (P 0 1) = false) (sz : Nat) : Met l y_M_bar w_M_bar { frames := 2, cells := 0, slots := 0, locals := 43 } (rw_P [.ref (am 0), .int (nI p1), .int d, .int sf, .int (nI b)] D (wM am cm P G X) (tM cm) sz) (rw_Qv (fun u : Unit => True) D (wM am cm P G X) (fun u => wM am cm P G (up2 X 0 0 1)) sz) 0 0 (va_A (wM am cm P G X) sz) := by
  refine Met.ofW (cc := b_M_bar) (maxL := 5) (ret := none) (by decide) rfl ?_
  intro p e s m args below meth c s₁ B hml hv
  obtain ⟨rfl, hsz, hN, hP, hK, hD0⟩ := hv
  have hx := B.exec
  have hb := B.bytes
  have hr := B.returns
  have hts := atoms_spec (ws := w_M_bar) B.pre
  have htb : ∀ w ∈ TBG, w.before [.ref (am 0), .int (nI p1), .int d, .int sf, .int (nI b)].toArray s = true := fun w h => hts w (List.mem_cons_of_mem _ h)
  have hown : s.vm.findClass R_M = some m.cls := findClass_of_methodNamed B.named
  have hlocks := B.notSynchronized
  subst hsz
  have hD := hD0.self (sz := s.heap.size)
  unfold rw_Qv
  generalize hAe : va_A (wM am cm P G X) s.heap.size = A at hD ⊢
  have hA : ∀ q : Nat, s.heap.size ≤ q → A q := fun q h => by rw [← hAe]; exact Or.inr h
  have hS : va_S A s.heap s.heap [] := va_S.rf
  have hl := lv_entry ([.ref (am 0), .int (nI p1), .int d, .int sf, .int (nI b)]) (n := 5) (Nat.le_of_ble_eq_true rfl)
  rw [lg_entry_eq]
  generalize (lg_sl ([.ref (am 0), .int (nI p1), .int d, .int sf, .int (nI b)]) ++ List.replicate (5 - (lg_sl ([.ref (am 0), .int (nI p1), .int d, .int sf, .int (nI b)])).length) Slot.unset).toArray = ls at hl ⊢
  have hl : lv_has ls 5 [(0, .ref (am 0)), (1, .int (nI p1)), (2, .int d), (3, .int sf), (4, .int (nI b))] := hl
  refine nr_start hP hS (fun H locs hP hS => ?_)
  obtain ⟨h00, h01, h02, h03, h04, h05, hp1, hp2, hp3, hp4, hp5, hp6⟩ := id hP0
  obtain ⟨k00, k01, hg1, hg2⟩ := id hG0
  obtain ⟨x00, x01, x02, x03, hx1, hx2, hx3, hx4, hx5, hx6, hx7⟩ := id hX0
  refine lv_aload_n hx hb d_M_bar_0 rfl (lv_at hl 0 rfl) ?_
  refine lv_aload_n hx hb d_M_bar_1 rfl (lv_at hl 0 rfl) ?_
  refine lv_iload_n hx hb d_M_bar_2 rfl (lv_at hl 1 rfl) ?_
  refine nr_calli (va_runV (As := [.int (nI p1)]) (rest := [.ref (am 0)]) ⟨hx, hb, hml, hown, hts⟩ (c_M_isPerson l D am cm P G X (am 3) (cm 2) (G 1) hP0 hG0 hX0 hg1 (nI p1)) ⟨callB_of 1 hts (gTB q_M_isPerson) rfl rfl rfl (htb _ q4) (htb _ q693) hd_M_isPerson ⟨Nat.le_of_ble_eq_true rfl, Nat.le_of_ble_eq_true rfl⟩, (htb _ q695), (htb _ sel_M_isPerson)⟩ ⟨ro_blind, va_recv (hK.sub (tys' := []) [] rfl) hP (ci := 3) (q0 := 0) rfl rfl, ro_pre hN (hP.sub (ws' := (wMS am cm P G X (am 3) (cm 2) (G 1))) [0, 1, 2, 3, 4, 5, 6, 7, 8, 9, 10, 11, 12, 13, 14, 3] rfl) (hK.sub (tys' := (tMS cm (cm 2))) [0, 1, 2, 3, 4, 5, 6, 7, 8, 9, 10, 11, 12, 13, 2] rfl)⟩ rfl rfl hl.1 rfl (lv_room (Nat.le_of_ble_eq_true rfl)) d_M_bar_3 ⟨Nat.le_of_ble_eq_true rfl, Nat.le_of_ble_eq_true rfl⟩) (fun r_1 hr_1 => ?_)
  subst hr_1
  refine nr_top (y := nI 1) (by rw [inR_n h_p1 (by omega)]; rfl) ?_
  refine nr_if_eq (tgt := 26) hx hb (by omega) d_M_bar_6 (by decide) (fun c_6 => by exfalso; omega) (fun c_6 => ?_)
  refine lv_aload_n hx hb d_M_bar_9 rfl (lv_at hl 0 rfl) ?_
  refine lv_iload_n hx hb d_M_bar_10 rfl (lv_at hl 2 rfl) ?_
  refine nr_calli (va_runV (As := [.int d]) (rest := [.ref (am 0)]) ⟨hx, hb, hml, hown, hts⟩ (c_M_isDay l D am cm P G X (am 3) (cm 2) (G 1) hP0 hG0 hX0 hg1 d) ⟨callB_of 1 hts (gTB q_M_isDay) rfl rfl rfl (htb _ q4) (htb _ q681) hd_M_isDay ⟨Nat.le_of_ble_eq_true rfl, Nat.le_of_ble_eq_true rfl⟩, (htb _ q683), (htb _ sel_M_isDay)⟩ ⟨ro_blind, va_recv (hK.sub (tys' := []) [] rfl) hP (ci := 3) (q0 := 0) rfl rfl, ro_pre hN (hP.sub (ws' := (wMS am cm P G X (am 3) (cm 2) (G 1))) [0, 1, 2, 3, 4, 5, 6, 7, 8, 9, 10, 11, 12, 13, 14, 3] rfl) (hK.sub (tys' := (tMS cm (cm 2))) [0, 1, 2, 3, 4, 5, 6, 7, 8, 9, 10, 11, 12, 13, 2] rfl)⟩ rfl rfl hl.1 rfl (lv_room (Nat.le_of_ble_eq_true rfl)) d_M_bar_11 ⟨Nat.le_of_ble_eq_true rfl, Nat.le_of_ble_eq_true rfl⟩) (fun r_2 hr_2 => ?_)
  subst hr_2
  refine nr_top (y := nI 0) (by rw [hbad]; rfl) ?_
  refine nr_if_eq (tgt := 26) hx hb (by omega) d_M_bar_14 (by decide) (fun c_14 => ?_) (fun c_14 => by exfalso; omega)
  refine nr_iconst hx hb 1 d_M_bar_26 (by decide) ?_
  refine lv_goto (tgt := 31) hx hb d_M_bar_27 (by decide) ?_
  refine nr_iconst hx hb 0 d_M_bar_31 (by decide) ?_
  refine nr_iconst hx hb 0 d_M_bar_32 (by decide) ?_
  refine nr_iconst hx hb 0 d_M_bar_33 (by decide) ?_
  refine nr_callwi (wr := ([] : va_W)) (va_runV (As := [.int (nI 1), .int (nI 0), .int (nI 0), .int (nI 0)]) (rest := []) ⟨hx, hb, hml, hown, hts⟩ (c_M_throwing l D am cm P G X 1 0 0 0 (by decide) (by decide) (by decide) (by decide) H.size) ⟨callB_of 4 hts (gTB q_M_throwing) rfl rfl rfl (htb _ q4) (htb _ q669) hd_M_throwing ⟨Nat.le_of_ble_eq_true rfl, Nat.le_of_ble_eq_true rfl⟩, (htb _ q671), (htb _ sel_M_throwing)⟩ ⟨rw_blind, va_recv (hK.sub (tys' := []) [] rfl) hP (ci := 3) (q0 := 0) rfl rfl, rw_pre hN (hP.sub (ws' := (wM am cm P G X)) [0, 1, 2, 3, 4, 5, 6, 7, 8, 9, 10, 11, 12, 13, 14] rfl) (hK.sub (tys' := (tM cm)) [0, 1, 2, 3, 4, 5, 6, 7, 8, 9, 10, 11, 12, 13] rfl) (hD.sub (ws' := (wM am cm P G X)) [0, 1, 2, 3, 4, 5, 6, 7, 8, 9, 10, 11, 12, 13, 14] (by decide) rfl)⟩ rfl rfl hl.1 rfl (lv_room (Nat.le_of_ble_eq_true rfl)) d_M_bar_34 ⟨Nat.le_of_ble_eq_true rfl, Nat.le_of_ble_eq_true rfl⟩) hP hD hS hA [0, 1, 2, 3, 4, 5, 6, 7, 8, 9, 10, 11, 12, 13, 14] [] rfl rfl (by decide) (by decide) (fun r_3 u_3 H locs hr_3 hP hD hS => ?_)
  subst hr_3
  replace hP := hP.sub (ws' := wM am cm P G (up2 X 0 0 1)) [0, 1, 2, 3, 4, 5, 6, 7, 8, 9, 10, 11, 12, 13, 14] rfl
  replace hD := hD.sub (ws' := wM am cm P G (up2 X 0 0 1)) [0, 1, 2, 3, 4, 5, 6, 7, 8, 9, 10, 11, 12, 13, 14] (by decide) rfl
  refine nr_top (y := nI 1) rfl ?_
  refine nr_if_eq (tgt := 41) hx hb (by omega) d_M_bar_37 (by decide) (fun c_37 => by exfalso; omega) (fun c_37 => ?_)
  exact W.vret hx hb hr (fun t ht hW => ⟨⟨(), rfl, trivial, by rw [ht]; exact hP, hD⟩, hS.F ht⟩) hS.2.2 d_M_bar_40
set_option maxHeartbeats 4000000 in
set_option maxRecDepth 100000 in
theorem j_M_bar_1c (l : Launch) (D : va_G) (am : Nat → Nat) (cm : Nat → ClassId) (P G X : Nat → Nat → Nat) (hP0 : okP P) (hG0 : okG G) (hX0 : okX X) (p1 d b : Nat) (sf : Int32) (h_p1 : (p1 < P 0 0)) (h_d : (d < P 0 1)) (h_b : b ≤ 1) (hbad : decide (nI 1 ≤ sf ∧ sf ≤ nI 3) = false) (sz : Nat) : Met l y_M_bar w_M_bar { frames := 2, cells := 0, slots := 0, locals := 43 } (rw_P [.ref (am 0), .int (nI p1), .int (nI d), .int sf, .int (nI b)] D (wM am cm P G X) (tM cm) sz) (rw_Qv (fun u : Unit => True) D (wM am cm P G X) (fun u => wM am cm P G (up2 X 0 0 1)) sz) 0 0 (va_A (wM am cm P G X) sz) := by
  refine Met.ofW (cc := b_M_bar) (maxL := 5) (ret := none) (by decide) rfl ?_
  intro p e s m args below meth c s₁ B hml hv
  obtain ⟨rfl, hsz, hN, hP, hK, hD0⟩ := hv
  have hx := B.exec
  have hb := B.bytes
  have hr := B.returns
  have hts := atoms_spec (ws := w_M_bar) B.pre
  have htb : ∀ w ∈ TBG, w.before [.ref (am 0), .int (nI p1), .int (nI d), .int sf, .int (nI b)].toArray s = true := fun w h => hts w (List.mem_cons_of_mem _ h)
  have hown : s.vm.findClass R_M = some m.cls := findClass_of_methodNamed B.named
  have hlocks := B.notSynchronized
  subst hsz
  have hD := hD0.self (sz := s.heap.size)
  unfold rw_Qv
  generalize hAe : va_A (wM am cm P G X) s.heap.size = A at hD ⊢
  have hA : ∀ q : Nat, s.heap.size ≤ q → A q := fun q h => by rw [← hAe]; exact Or.inr h
  have hS : va_S A s.heap s.heap [] := va_S.rf
  have hl := lv_entry ([.ref (am 0), .int (nI p1), .int (nI d), .int sf, .int (nI b)]) (n := 5) (Nat.le_of_ble_eq_true rfl)
  rw [lg_entry_eq]
  generalize (lg_sl ([.ref (am 0), .int (nI p1), .int (nI d), .int sf, .int (nI b)]) ++ List.replicate (5 - (lg_sl ([.ref (am 0), .int (nI p1), .int (nI d), .int sf, .int (nI b)])).length) Slot.unset).toArray = ls at hl ⊢
  have hl : lv_has ls 5 [(0, .ref (am 0)), (1, .int (nI p1)), (2, .int (nI d)), (3, .int sf), (4, .int (nI b))] := hl
  refine nr_start hP hS (fun H locs hP hS => ?_)
  obtain ⟨h00, h01, h02, h03, h04, h05, hp1, hp2, hp3, hp4, hp5, hp6⟩ := id hP0
  obtain ⟨k00, k01, hg1, hg2⟩ := id hG0
  obtain ⟨x00, x01, x02, x03, hx1, hx2, hx3, hx4, hx5, hx6, hx7⟩ := id hX0
  refine lv_aload_n hx hb d_M_bar_0 rfl (lv_at hl 0 rfl) ?_
  refine lv_aload_n hx hb d_M_bar_1 rfl (lv_at hl 0 rfl) ?_
  refine lv_iload_n hx hb d_M_bar_2 rfl (lv_at hl 1 rfl) ?_
  refine nr_calli (va_runV (As := [.int (nI p1)]) (rest := [.ref (am 0)]) ⟨hx, hb, hml, hown, hts⟩ (c_M_isPerson l D am cm P G X (am 3) (cm 2) (G 1) hP0 hG0 hX0 hg1 (nI p1)) ⟨callB_of 1 hts (gTB q_M_isPerson) rfl rfl rfl (htb _ q4) (htb _ q693) hd_M_isPerson ⟨Nat.le_of_ble_eq_true rfl, Nat.le_of_ble_eq_true rfl⟩, (htb _ q695), (htb _ sel_M_isPerson)⟩ ⟨ro_blind, va_recv (hK.sub (tys' := []) [] rfl) hP (ci := 3) (q0 := 0) rfl rfl, ro_pre hN (hP.sub (ws' := (wMS am cm P G X (am 3) (cm 2) (G 1))) [0, 1, 2, 3, 4, 5, 6, 7, 8, 9, 10, 11, 12, 13, 14, 3] rfl) (hK.sub (tys' := (tMS cm (cm 2))) [0, 1, 2, 3, 4, 5, 6, 7, 8, 9, 10, 11, 12, 13, 2] rfl)⟩ rfl rfl hl.1 rfl (lv_room (Nat.le_of_ble_eq_true rfl)) d_M_bar_3 ⟨Nat.le_of_ble_eq_true rfl, Nat.le_of_ble_eq_true rfl⟩) (fun r_1 hr_1 => ?_)
  subst hr_1
  refine nr_top (y := nI 1) (by rw [inR_n h_p1 (by omega)]; rfl) ?_
  refine nr_if_eq (tgt := 26) hx hb (by omega) d_M_bar_6 (by decide) (fun c_6 => by exfalso; omega) (fun c_6 => ?_)
  refine lv_aload_n hx hb d_M_bar_9 rfl (lv_at hl 0 rfl) ?_
  refine lv_iload_n hx hb d_M_bar_10 rfl (lv_at hl 2 rfl) ?_
  refine nr_calli (va_runV (As := [.int (nI d)]) (rest := [.ref (am 0)]) ⟨hx, hb, hml, hown, hts⟩ (c_M_isDay l D am cm P G X (am 3) (cm 2) (G 1) hP0 hG0 hX0 hg1 (nI d)) ⟨callB_of 1 hts (gTB q_M_isDay) rfl rfl rfl (htb _ q4) (htb _ q681) hd_M_isDay ⟨Nat.le_of_ble_eq_true rfl, Nat.le_of_ble_eq_true rfl⟩, (htb _ q683), (htb _ sel_M_isDay)⟩ ⟨ro_blind, va_recv (hK.sub (tys' := []) [] rfl) hP (ci := 3) (q0 := 0) rfl rfl, ro_pre hN (hP.sub (ws' := (wMS am cm P G X (am 3) (cm 2) (G 1))) [0, 1, 2, 3, 4, 5, 6, 7, 8, 9, 10, 11, 12, 13, 14, 3] rfl) (hK.sub (tys' := (tMS cm (cm 2))) [0, 1, 2, 3, 4, 5, 6, 7, 8, 9, 10, 11, 12, 13, 2] rfl)⟩ rfl rfl hl.1 rfl (lv_room (Nat.le_of_ble_eq_true rfl)) d_M_bar_11 ⟨Nat.le_of_ble_eq_true rfl, Nat.le_of_ble_eq_true rfl⟩) (fun r_2 hr_2 => ?_)
  subst hr_2
  refine nr_top (y := nI 1) (by rw [inR_n h_d (by omega)]; rfl) ?_
  refine nr_if_eq (tgt := 26) hx hb (by omega) d_M_bar_14 (by decide) (fun c_14 => by exfalso; omega) (fun c_14 => ?_)
  refine lv_iload_n hx hb d_M_bar_17 rfl (lv_at hl 3 rfl) ?_
  refine nr_iconst hx hb 1 d_M_bar_18 (by decide) ?_
  refine nr_iconst hx hb 3 d_M_bar_19 (by decide) ?_
  refine nr_calli (va_runS (As := [.int sf, .int (nI 1), .int (nI 3)]) (rest := [.ref (am 0)]) ⟨hx, hb, hml, hown, hts⟩ (c_M_in l D sf (nI 1) (nI 3)) ⟨callB_of 3 hts (gTB q_M_in) rfl rfl rfl (htb _ q4) (htb _ q666) hd_M_in ⟨Nat.le_of_ble_eq_true rfl, Nat.le_of_ble_eq_true rfl⟩, (htb _ q667)⟩ ⟨ro_blind, ro_pre hN (hP.sub (ws' := []) [] rfl) (hK.sub (tys' := []) [] rfl)⟩ rfl rfl hl.1 rfl (lv_room (Nat.le_of_ble_eq_true rfl)) d_M_bar_20 ⟨Nat.le_of_ble_eq_true rfl, Nat.le_of_ble_eq_true rfl⟩) (fun r_3 hr_3 => ?_)
  subst hr_3
  refine nr_top (y := nI 0) (by rw [hbad]; rfl) ?_
  refine nr_if_ne (tgt := 30) hx hb (by omega) d_M_bar_23 (by decide) (fun c_23 => by exfalso; omega) (fun c_23 => ?_)
  refine nr_iconst hx hb 1 d_M_bar_26 (by decide) ?_
  refine lv_goto (tgt := 31) hx hb d_M_bar_27 (by decide) ?_
  refine nr_iconst hx hb 0 d_M_bar_31 (by decide) ?_
  refine nr_iconst hx hb 0 d_M_bar_32 (by decide) ?_
  refine nr_iconst hx hb 0 d_M_bar_33 (by decide) ?_
  refine nr_callwi (wr := ([] : va_W)) (va_runV (As := [.int (nI 1), .int (nI 0), .int (nI 0), .int (nI 0)]) (rest := []) ⟨hx, hb, hml, hown, hts⟩ (c_M_throwing l D am cm P G X 1 0 0 0 (by decide) (by decide) (by decide) (by decide) H.size) ⟨callB_of 4 hts (gTB q_M_throwing) rfl rfl rfl (htb _ q4) (htb _ q669) hd_M_throwing ⟨Nat.le_of_ble_eq_true rfl, Nat.le_of_ble_eq_true rfl⟩, (htb _ q671), (htb _ sel_M_throwing)⟩ ⟨rw_blind, va_recv (hK.sub (tys' := []) [] rfl) hP (ci := 3) (q0 := 0) rfl rfl, rw_pre hN (hP.sub (ws' := (wM am cm P G X)) [0, 1, 2, 3, 4, 5, 6, 7, 8, 9, 10, 11, 12, 13, 14] rfl) (hK.sub (tys' := (tM cm)) [0, 1, 2, 3, 4, 5, 6, 7, 8, 9, 10, 11, 12, 13] rfl) (hD.sub (ws' := (wM am cm P G X)) [0, 1, 2, 3, 4, 5, 6, 7, 8, 9, 10, 11, 12, 13, 14] (by decide) rfl)⟩ rfl rfl hl.1 rfl (lv_room (Nat.le_of_ble_eq_true rfl)) d_M_bar_34 ⟨Nat.le_of_ble_eq_true rfl, Nat.le_of_ble_eq_true rfl⟩) hP hD hS hA [0, 1, 2, 3, 4, 5, 6, 7, 8, 9, 10, 11, 12, 13, 14] [] rfl rfl (by decide) (by decide) (fun r_4 u_4 H locs hr_4 hP hD hS => ?_)
  subst hr_4
  replace hP := hP.sub (ws' := wM am cm P G (up2 X 0 0 1)) [0, 1, 2, 3, 4, 5, 6, 7, 8, 9, 10, 11, 12, 13, 14] rfl
  replace hD := hD.sub (ws' := wM am cm P G (up2 X 0 0 1)) [0, 1, 2, 3, 4, 5, 6, 7, 8, 9, 10, 11, 12, 13, 14] (by decide) rfl
  refine nr_top (y := nI 1) rfl ?_
  refine nr_if_eq (tgt := 41) hx hb (by omega) d_M_bar_37 (by decide) (fun c_37 => by exfalso; omega) (fun c_37 => ?_)
  exact W.vret hx hb hr (fun t ht hW => ⟨⟨(), rfl, trivial, by rw [ht]; exact hP, hD⟩, hS.F ht⟩) hS.2.2 d_M_bar_40
set_option maxHeartbeats 4000000 in
set_option maxRecDepth 100000 in
theorem j_M_wish_1a (l : Launch) (D : va_G) (am : Nat → Nat) (cm : Nat → ClassId) (P G X : Nat → Nat → Nat) (hP0 : okP P) (hG0 : okG G) (hX0 : okX X) (b : Nat) (p1 d sf wt : Int32) (h_b : b ≤ 1) (hbad : inR p1 (P 0 0) = false) (sz : Nat) : Met l y_M_wish w_M_wish { frames := 2, cells := 0, slots := 0, locals := 43 } (rw_P [.ref (am 0), .int p1, .int d, .int sf, .int (nI b), .int wt] D (wM am cm P G X) (tM cm) sz) (rw_Qi (fun (r : Int32) (u : Unit) => r = nI 0) D (wM am cm P G X) (fun u => wM am cm P G (up2 X 0 0 1)) sz) 0 0 (va_A (wM am cm P G X) sz) := by
  refine Met.ofW (cc := b_M_wish) (maxL := 7) (ret := (some .int)) (by decide) rfl ?_
  intro p e s m args below meth c s₁ B hml hv
  obtain ⟨rfl, hsz, hN, hP, hK, hD0⟩ := hv
  have hx := B.exec
  have hb := B.bytes
  have hr := B.returns
  have hts := atoms_spec (ws := w_M_wish) B.pre
  have htb : ∀ w ∈ TBG, w.before [.ref (am 0), .int p1, .int d, .int sf, .int (nI b), .int wt].toArray s = true := fun w h => hts w (List.mem_cons_of_mem _ h)
  have hown : s.vm.findClass R_M = some m.cls := findClass_of_methodNamed B.named
  have hlocks := B.notSynchronized
  subst hsz
  have hD := hD0.self (sz := s.heap.size)
  unfold rw_Qi
  generalize hAe : va_A (wM am cm P G X) s.heap.size = A at hD ⊢
  have hA : ∀ q : Nat, s.heap.size ≤ q → A q := fun q h => by rw [← hAe]; exact Or.inr h
  have hS : va_S A s.heap s.heap [] := va_S.rf
  have hl := lv_entry ([.ref (am 0), .int p1, .int d, .int sf, .int (nI b), .int wt]) (n := 7) (Nat.le_of_ble_eq_true rfl)
  rw [lg_entry_eq]
  generalize (lg_sl ([.ref (am 0), .int p1, .int d, .int sf, .int (nI b), .int wt]) ++ List.replicate (7 - (lg_sl ([.ref (am 0), .int p1, .int d, .int sf, .int (nI b), .int wt])).length) Slot.unset).toArray = ls at hl ⊢
  have hl : lv_has ls 7 [(0, .ref (am 0)), (1, .int p1), (2, .int d), (3, .int sf), (4, .int (nI b)), (5, .int wt)] := hl
  refine nr_start hP hS (fun H locs hP hS => ?_)
  obtain ⟨h00, h01, h02, h03, h04, h05, hp1, hp2, hp3, hp4, hp5, hp6⟩ := id hP0
  obtain ⟨k00, k01, hg1, hg2⟩ := id hG0
  obtain ⟨x00, x01, x02, x03, hx1, hx2, hx3, hx4, hx5, hx6, hx7⟩ := id hX0
  refine lv_aload_n hx hb d_M_wish_0 rfl (lv_at hl 0 rfl) ?_
  refine lv_iload_n hx hb d_M_wish_1 rfl (lv_at hl 1 rfl) ?_
  refine nr_calli (va_runV (As := [.int p1]) (rest := []) ⟨hx, hb, hml, hown, hts⟩ (c_M_isPerson l D am cm P G X (am 3) (cm 2) (G 1) hP0 hG0 hX0 hg1 p1) ⟨callB_of 1 hts (gTB q_M_isPerson) rfl rfl rfl (htb _ q4) (htb _ q693) hd_M_isPerson ⟨Nat.le_of_ble_eq_true rfl, Nat.le_of_ble_eq_true rfl⟩, (htb _ q695), (htb _ sel_M_isPerson)⟩ ⟨ro_blind, va_recv (hK.sub (tys' := []) [] rfl) hP (ci := 3) (q0 := 0) rfl rfl, ro_pre hN (hP.sub (ws' := (wMS am cm P G X (am 3) (cm 2) (G 1))) [0, 1, 2, 3, 4, 5, 6, 7, 8, 9, 10, 11, 12, 13, 14, 3] rfl) (hK.sub (tys' := (tMS cm (cm 2))) [0, 1, 2, 3, 4, 5, 6, 7, 8, 9, 10, 11, 12, 13, 2] rfl)⟩ rfl rfl hl.1 rfl (lv_room (Nat.le_of_ble_eq_true rfl)) d_M_wish_2 ⟨Nat.le_of_ble_eq_true rfl, Nat.le_of_ble_eq_true rfl⟩) (fun r_1 hr_1 => ?_)
  subst hr_1
  refine nr_top (y := nI 0) (by rw [hbad]; rfl) ?_
  refine nr_if_eq (tgt := 25) hx hb (by omega) d_M_wish_5 (by decide) (fun c_5 => ?_) (fun c_5 => by exfalso; omega)
  refine nr_iconst hx hb 1 d_M_wish_25 (by decide) ?_
  refine lv_goto (tgt := 30) hx hb d_M_wish_26 (by decide) ?_
  refine lv_istore (lv' := [(6, .int (nI 1)), (0, .ref (am 0)), (1, .int p1), (2, .int d), (3, .int sf), (4, .int (nI b)), (5, .int wt)]) hx hb d_M_wish_30 hl (by decide) rfl (fun ls hl => ?_)
  refine lv_aload_n hx hb d_M_wish_32 rfl (lv_at hl 1 rfl) ?_
  refine lv_iload hx hb d_M_wish_33 (lv_at hl 0 rfl) ?_
  refine lv_iload hx hb d_M_wish_35 (lv_at hl 6 rfl) ?_
  refine nr_iconst hx hb 1 d_M_wish_37 (by decide) ?_
  refine nr_bipush hx hb 100 d_M_wish_38 (by decide) ?_
  refine nr_calli (va_runS (As := [.int wt, .int (nI 1), .int (nI 100)]) (rest := [.int (nI 1), .ref (am 0)]) ⟨hx, hb, hml, hown, hts⟩ (c_M_in l D wt (nI 1) (nI 100)) ⟨callB_of 3 hts (gTB q_M_in) rfl rfl rfl (htb _ q4) (htb _ q666) hd_M_in ⟨Nat.le_of_ble_eq_true rfl, Nat.le_of_ble_eq_true rfl⟩, (htb _ q667)⟩ ⟨ro_blind, ro_pre hN (hP.sub (ws' := []) [] rfl) (hK.sub (tys' := []) [] rfl)⟩ rfl rfl hl.1 rfl (lv_room (Nat.le_of_ble_eq_true rfl)) d_M_wish_40 ⟨Nat.le_of_ble_eq_true rfl, Nat.le_of_ble_eq_true rfl⟩) (fun r_2 hr_2 => ?_)
  subst hr_2
  refine nr_if_ne (tgt := 50) hx hb b01_lt d_M_wish_43 (by decide) (fun c_43 => ?_) (fun c_43 => ?_)
  · refine nr_iconst hx hb 0 d_M_wish_50 (by decide) ?_
    refine lv_iload hx hb d_M_wish_51 (lv_at hl 0 rfl) ?_
    refine nr_if_ne (tgt := 68) hx hb (by omega) d_M_wish_53 (by decide) (fun c_53 => ?_) (fun c_53 => by exfalso; omega)
    refine nr_iconst hx hb 0 d_M_wish_68 (by decide) ?_
    refine lv_aload_n hx hb d_M_wish_69 rfl (lv_at hl 1 rfl) ?_
    refine va_get (D := D) (ci := 3) (v := .int (nI (P 0 5))) (C := R_M) (T := F_M) (N := 26) hx hb htb u_M hown hK hP 0 rfl rfl 17 (by decide) (htb _ q596) (fun _ h9 => h9) rfl d_M_wish_70 ?_
    refine nr_bipush hx hb 20 d_M_wish_73 (by decide) ?_
    refine nr_icmp_ne (tgt := 82) hx hb (by omega) (by omega) d_M_wish_75 (by decide) (fun c_75 => ?_) (fun c_75 => ?_)
    · refine nr_iconst hx hb 0 d_M_wish_82 (by decide) ?_
      refine nr_callwi (wr := ([] : va_W)) (va_runV (As := [.int (nI 1), .int (nI 0), .int (nI 0), .int (nI 0)]) (rest := []) ⟨hx, hb, hml, hown, hts⟩ (c_M_throwing l D am cm P G X 1 0 0 0 (by decide) (by decide) (by decide) (by decide) H.size) ⟨callB_of 4 hts (gTB q_M_throwing) rfl rfl rfl (htb _ q4) (htb _ q669) hd_M_throwing ⟨Nat.le_of_ble_eq_true rfl, Nat.le_of_ble_eq_true rfl⟩, (htb _ q671), (htb _ sel_M_throwing)⟩ ⟨rw_blind, va_recv (hK.sub (tys' := []) [] rfl) hP (ci := 3) (q0 := 0) rfl rfl, rw_pre hN (hP.sub (ws' := (wM am cm P G X)) [0, 1, 2, 3, 4, 5, 6, 7, 8, 9, 10, 11, 12, 13, 14] rfl) (hK.sub (tys' := (tM cm)) [0, 1, 2, 3, 4, 5, 6, 7, 8, 9, 10, 11, 12, 13] rfl) (hD.sub (ws' := (wM am cm P G X)) [0, 1, 2, 3, 4, 5, 6, 7, 8, 9, 10, 11, 12, 13, 14] (by decide) rfl)⟩ rfl rfl hl.1 rfl (lv_room (Nat.le_of_ble_eq_true rfl)) d_M_wish_83 ⟨Nat.le_of_ble_eq_true rfl, Nat.le_of_ble_eq_true rfl⟩) hP hD hS hA [0, 1, 2, 3, 4, 5, 6, 7, 8, 9, 10, 11, 12, 13, 14] [] rfl rfl (by decide) (by decide) (fun r_3 u_3 H locs hr_3 hP hD hS => ?_)
      subst hr_3
      replace hP := hP.sub (ws' := wM am cm P G (up2 X 0 0 1)) [0, 1, 2, 3, 4, 5, 6, 7, 8, 9, 10, 11, 12, 13, 14] rfl
      replace hD := hD.sub (ws' := wM am cm P G (up2 X 0 0 1)) [0, 1, 2, 3, 4, 5, 6, 7, 8, 9, 10, 11, 12, 13, 14] (by decide) rfl
      refine nr_top (y := nI 1) rfl ?_
      refine nr_if_eq (tgt := 91) hx hb (by omega) d_M_wish_86 (by decide) (fun c_86 => by exfalso; omega) (fun c_86 => ?_)
      refine nr_iconst hx hb 0 d_M_wish_89 (by decide) ?_
      exact W.iret (v := (nI 0)) hx hb hr (fun t ht hW => ⟨⟨_, (), rfl, rfl, by rw [ht]; exact hP, hD⟩, hS.F ht⟩) hS.2.2 d_M_wish_90
    · refine nr_iconst hx hb 1 d_M_wish_78 (by decide) ?_
      refine lv_goto (tgt := 83) hx hb d_M_wish_79 (by decide) ?_
      refine nr_callwi (wr := ([] : va_W)) (va_runV (As := [.int (nI 1), .int (nI 0), .int (nI 0), .int (nI 1)]) (rest := []) ⟨hx, hb, hml, hown, hts⟩ (c_M_throwing l D am cm P G X 1 0 0 1 (by decide) (by decide) (by decide) (by decide) H.size) ⟨callB_of 4 hts (gTB q_M_throwing) rfl rfl rfl (htb _ q4) (htb _ q669) hd_M_throwing ⟨Nat.le_of_ble_eq_true rfl, Nat.le_of_ble_eq_true rfl⟩, (htb _ q671), (htb _ sel_M_throwing)⟩ ⟨rw_blind, va_recv (hK.sub (tys' := []) [] rfl) hP (ci := 3) (q0 := 0) rfl rfl, rw_pre hN (hP.sub (ws' := (wM am cm P G X)) [0, 1, 2, 3, 4, 5, 6, 7, 8, 9, 10, 11, 12, 13, 14] rfl) (hK.sub (tys' := (tM cm)) [0, 1, 2, 3, 4, 5, 6, 7, 8, 9, 10, 11, 12, 13] rfl) (hD.sub (ws' := (wM am cm P G X)) [0, 1, 2, 3, 4, 5, 6, 7, 8, 9, 10, 11, 12, 13, 14] (by decide) rfl)⟩ rfl rfl hl.1 rfl (lv_room (Nat.le_of_ble_eq_true rfl)) d_M_wish_83 ⟨Nat.le_of_ble_eq_true rfl, Nat.le_of_ble_eq_true rfl⟩) hP hD hS hA [0, 1, 2, 3, 4, 5, 6, 7, 8, 9, 10, 11, 12, 13, 14] [] rfl rfl (by decide) (by decide) (fun r_4 u_4 H locs hr_4 hP hD hS => ?_)
      subst hr_4
      replace hP := hP.sub (ws' := wM am cm P G (up2 X 0 0 1)) [0, 1, 2, 3, 4, 5, 6, 7, 8, 9, 10, 11, 12, 13, 14] rfl
      replace hD := hD.sub (ws' := wM am cm P G (up2 X 0 0 1)) [0, 1, 2, 3, 4, 5, 6, 7, 8, 9, 10, 11, 12, 13, 14] (by decide) rfl
      refine nr_top (y := nI 1) rfl ?_
      refine nr_if_eq (tgt := 91) hx hb (by omega) d_M_wish_86 (by decide) (fun c_86 => by exfalso; omega) (fun c_86 => ?_)
      refine nr_iconst hx hb 0 d_M_wish_89 (by decide) ?_
      exact W.iret (v := (nI 0)) hx hb hr (fun t ht hW => ⟨⟨_, (), rfl, rfl, by rw [ht]; exact hP, hD⟩, hS.F ht⟩) hS.2.2 d_M_wish_90
  · refine nr_iconst hx hb 1 d_M_wish_46 (by decide) ?_
    refine lv_goto (tgt := 51) hx hb d_M_wish_47 (by decide) ?_
    refine lv_iload hx hb d_M_wish_51 (lv_at hl 0 rfl) ?_
    refine nr_if_ne (tgt := 68) hx hb (by omega) d_M_wish_53 (by decide) (fun c_53 => ?_) (fun c_53 => by exfalso; omega)
    refine nr_iconst hx hb 0 d_M_wish_68 (by decide) ?_
    refine lv_aload_n hx hb d_M_wish_69 rfl (lv_at hl 1 rfl) ?_
    refine va_get (D := D) (ci := 3) (v := .int (nI (P 0 5))) (C := R_M) (T := F_M) (N := 26) hx hb htb u_M hown hK hP 0 rfl rfl 17 (by decide) (htb _ q596) (fun _ h9 => h9) rfl d_M_wish_70 ?_
    refine nr_bipush hx hb 20 d_M_wish_73 (by decide) ?_
    refine nr_icmp_ne (tgt := 82) hx hb (by omega) (by omega) d_M_wish_75 (by decide) (fun c_75 => ?_) (fun c_75 => ?_)
    · refine nr_iconst hx hb 0 d_M_wish_82 (by decide) ?_
      refine nr_callwi (wr := ([] : va_W)) (va_runV (As := [.int (nI 1), .int (nI 1), .int (nI 0), .int (nI 0)]) (rest := []) ⟨hx, hb, hml, hown, hts⟩ (c_M_throwing l D am cm P G X 1 1 0 0 (by decide) (by decide) (by decide) (by decide) H.size) ⟨callB_of 4 hts (gTB q_M_throwing) rfl rfl rfl (htb _ q4) (htb _ q669) hd_M_throwing ⟨Nat.le_of_ble_eq_true rfl, Nat.le_of_ble_eq_true rfl⟩, (htb _ q671), (htb _ sel_M_throwing)⟩ ⟨rw_blind, va_recv (hK.sub (tys' := []) [] rfl) hP (ci := 3) (q0 := 0) rfl rfl, rw_pre hN (hP.sub (ws' := (wM am cm P G X)) [0, 1, 2, 3, 4, 5, 6, 7, 8, 9, 10, 11, 12, 13, 14] rfl) (hK.sub (tys' := (tM cm)) [0, 1, 2, 3, 4, 5, 6, 7, 8, 9, 10, 11, 12, 13] rfl) (hD.sub (ws' := (wM am cm P G X)) [0, 1, 2, 3, 4, 5, 6, 7, 8, 9, 10, 11, 12, 13, 14] (by decide) rfl)⟩ rfl rfl hl.1 rfl (lv_room (Nat.le_of_ble_eq_true rfl)) d_M_wish_83 ⟨Nat.le_of_ble_eq_true rfl, Nat.le_of_ble_eq_true rfl⟩) hP hD hS hA [0, 1, 2, 3, 4, 5, 6, 7, 8, 9, 10, 11, 12, 13, 14] [] rfl rfl (by decide) (by decide) (fun r_5 u_5 H locs hr_5 hP hD hS => ?_)
      subst hr_5
      replace hP := hP.sub (ws' := wM am cm P G (up2 X 0 0 1)) [0, 1, 2, 3, 4, 5, 6, 7, 8, 9, 10, 11, 12, 13, 14] rfl
      replace hD := hD.sub (ws' := wM am cm P G (up2 X 0 0 1)) [0, 1, 2, 3, 4, 5, 6, 7, 8, 9, 10, 11, 12, 13, 14] (by decide) rfl
      refine nr_top (y := nI 1) rfl ?_
      refine nr_if_eq (tgt := 91) hx hb (by omega) d_M_wish_86 (by decide) (fun c_86 => by exfalso; omega) (fun c_86 => ?_)
      refine nr_iconst hx hb 0 d_M_wish_89 (by decide) ?_
      exact W.iret (v := (nI 0)) hx hb hr (fun t ht hW => ⟨⟨_, (), rfl, rfl, by rw [ht]; exact hP, hD⟩, hS.F ht⟩) hS.2.2 d_M_wish_90
    · refine nr_iconst hx hb 1 d_M_wish_78 (by decide) ?_
      refine lv_goto (tgt := 83) hx hb d_M_wish_79 (by decide) ?_
      refine nr_callwi (wr := ([] : va_W)) (va_runV (As := [.int (nI 1), .int (nI 1), .int (nI 0), .int (nI 1)]) (rest := []) ⟨hx, hb, hml, hown, hts⟩ (c_M_throwing l D am cm P G X 1 1 0 1 (by decide) (by decide) (by decide) (by decide) H.size) ⟨callB_of 4 hts (gTB q_M_throwing) rfl rfl rfl (htb _ q4) (htb _ q669) hd_M_throwing ⟨Nat.le_of_ble_eq_true rfl, Nat.le_of_ble_eq_true rfl⟩, (htb _ q671), (htb _ sel_M_throwing)⟩ ⟨rw_blind, va_recv (hK.sub (tys' := []) [] rfl) hP (ci := 3) (q0 := 0) rfl rfl, rw_pre hN (hP.sub (ws' := (wM am cm P G X)) [0, 1, 2, 3, 4, 5, 6, 7, 8, 9, 10, 11, 12, 13, 14] rfl) (hK.sub (tys' := (tM cm)) [0, 1, 2, 3, 4, 5, 6, 7, 8, 9, 10, 11, 12, 13] rfl) (hD.sub (ws' := (wM am cm P G X)) [0, 1, 2, 3, 4, 5, 6, 7, 8, 9, 10, 11, 12, 13, 14] (by decide) rfl)⟩ rfl rfl hl.1 rfl (lv_room (Nat.le_of_ble_eq_true rfl)) d_M_wish_83 ⟨Nat.le_of_ble_eq_true rfl, Nat.le_of_ble_eq_true rfl⟩) hP hD hS hA [0, 1, 2, 3, 4, 5, 6, 7, 8, 9, 10, 11, 12, 13, 14] [] rfl rfl (by decide) (by decide) (fun r_6 u_6 H locs hr_6 hP hD hS => ?_)
      subst hr_6
      replace hP := hP.sub (ws' := wM am cm P G (up2 X 0 0 1)) [0, 1, 2, 3, 4, 5, 6, 7, 8, 9, 10, 11, 12, 13, 14] rfl
      replace hD := hD.sub (ws' := wM am cm P G (up2 X 0 0 1)) [0, 1, 2, 3, 4, 5, 6, 7, 8, 9, 10, 11, 12, 13, 14] (by decide) rfl
      refine nr_top (y := nI 1) rfl ?_
      refine nr_if_eq (tgt := 91) hx hb (by omega) d_M_wish_86 (by decide) (fun c_86 => by exfalso; omega) (fun c_86 => ?_)
      refine nr_iconst hx hb 0 d_M_wish_89 (by decide) ?_
      exact W.iret (v := (nI 0)) hx hb hr (fun t ht hW => ⟨⟨_, (), rfl, rfl, by rw [ht]; exact hP, hD⟩, hS.F ht⟩) hS.2.2 d_M_wish_90
set_option maxHeartbeats 4000000 in
set_option maxRecDepth 100000 in
theorem j_M_wish_1b (l : Launch) (D : va_G) (am : Nat → Nat) (cm : Nat → ClassId) (P G X : Nat → Nat → Nat) (hP0 : okP P) (hG0 : okG G) (hX0 : okX X) (p1 b : Nat) (d sf wt : Int32) (h_p1 : (p1 < P 0 0)) (h_b : b ≤ 1) (hbad : inR d (P 0 1) = false) (sz : Nat) : Met l y_M_wish w_M_wish { frames := 2, cells := 0, slots := 0, locals := 43 } (rw_P [.ref (am 0), .int (nI p1), .int d, .int sf, .int (nI b), .int wt] D (wM am cm P G X) (tM cm) sz) (rw_Qi (fun (r : Int32) (u : Unit) => r = nI 0) D (wM am cm P G X) (fun u => wM am cm P G (up2 X 0 0 1)) sz) 0 0 (va_A (wM am cm P G X) sz) := by
  refine Met.ofW (cc := b_M_wish) (maxL := 7) (ret := (some .int)) (by decide) rfl ?_
  intro p e s m args below meth c s₁ B hml hv
  obtain ⟨rfl, hsz, hN, hP, hK, hD0⟩ := hv
  have hx := B.exec
  have hb := B.bytes
  have hr := B.returns
  have hts := atoms_spec (ws := w_M_wish) B.pre
  have htb : ∀ w ∈ TBG, w.before [.ref (am 0), .int (nI p1), .int d, .int sf, .int (nI b), .int wt].toArray s = true := fun w h => hts w (List.mem_cons_of_mem _ h)
  have hown : s.vm.findClass R_M = some m.cls := findClass_of_methodNamed B.named
  have hlocks := B.notSynchronized
  subst hsz
  have hD := hD0.self (sz := s.heap.size)
  unfold rw_Qi
  generalize hAe : va_A (wM am cm P G X) s.heap.size = A at hD ⊢
  have hA : ∀ q : Nat, s.heap.size ≤ q → A q := fun q h => by rw [← hAe]; exact Or.inr h
  have hS : va_S A s.heap s.heap [] := va_S.rf
  have hl := lv_entry ([.ref (am 0), .int (nI p1), .int d, .int sf, .int (nI b), .int wt]) (n := 7) (Nat.le_of_ble_eq_true rfl)
  rw [lg_entry_eq]
  generalize (lg_sl ([.ref (am 0), .int (nI p1), .int d, .int sf, .int (nI b), .int wt]) ++ List.replicate (7 - (lg_sl ([.ref (am 0), .int (nI p1), .int d, .int sf, .int (nI b), .int wt])).length) Slot.unset).toArray = ls at hl ⊢
  have hl : lv_has ls 7 [(0, .ref (am 0)), (1, .int (nI p1)), (2, .int d), (3, .int sf), (4, .int (nI b)), (5, .int wt)] := hl
  refine nr_start hP hS (fun H locs hP hS => ?_)
  obtain ⟨h00, h01, h02, h03, h04, h05, hp1, hp2, hp3, hp4, hp5, hp6⟩ := id hP0
  obtain ⟨k00, k01, hg1, hg2⟩ := id hG0
  obtain ⟨x00, x01, x02, x03, hx1, hx2, hx3, hx4, hx5, hx6, hx7⟩ := id hX0
  refine lv_aload_n hx hb d_M_wish_0 rfl (lv_at hl 0 rfl) ?_
  refine lv_iload_n hx hb d_M_wish_1 rfl (lv_at hl 1 rfl) ?_
  refine nr_calli (va_runV (As := [.int (nI p1)]) (rest := []) ⟨hx, hb, hml, hown, hts⟩ (c_M_isPerson l D am cm P G X (am 3) (cm 2) (G 1) hP0 hG0 hX0 hg1 (nI p1)) ⟨callB_of 1 hts (gTB q_M_isPerson) rfl rfl rfl (htb _ q4) (htb _ q693) hd_M_isPerson ⟨Nat.le_of_ble_eq_true rfl, Nat.le_of_ble_eq_true rfl⟩, (htb _ q695), (htb _ sel_M_isPerson)⟩ ⟨ro_blind, va_recv (hK.sub (tys' := []) [] rfl) hP (ci := 3) (q0 := 0) rfl rfl, ro_pre hN (hP.sub (ws' := (wMS am cm P G X (am 3) (cm 2) (G 1))) [0, 1, 2, 3, 4, 5, 6, 7, 8, 9, 10, 11, 12, 13, 14, 3] rfl) (hK.sub (tys' := (tMS cm (cm 2))) [0, 1, 2, 3, 4, 5, 6, 7, 8, 9, 10, 11, 12, 13, 2] rfl)⟩ rfl rfl hl.1 rfl (lv_room (Nat.le_of_ble_eq_true rfl)) d_M_wish_2 ⟨Nat.le_of_ble_eq_true rfl, Nat.le_of_ble_eq_true rfl⟩) (fun r_1 hr_1 => ?_)
  subst hr_1
  refine nr_top (y := nI 1) (by rw [inR_n h_p1 (by omega)]; rfl) ?_
  refine nr_if_eq (tgt := 25) hx hb (by omega) d_M_wish_5 (by decide) (fun c_5 => by exfalso; omega) (fun c_5 => ?_)
  refine lv_aload_n hx hb d_M_wish_8 rfl (lv_at hl 0 rfl) ?_
  refine lv_iload_n hx hb d_M_wish_9 rfl (lv_at hl 2 rfl) ?_
  refine nr_calli (va_runV (As := [.int d]) (rest := []) ⟨hx, hb, hml, hown, hts⟩ (c_M_isDay l D am cm P G X (am 3) (cm 2) (G 1) hP0 hG0 hX0 hg1 d) ⟨callB_of 1 hts (gTB q_M_isDay) rfl rfl rfl (htb _ q4) (htb _ q681) hd_M_isDay ⟨Nat.le_of_ble_eq_true rfl, Nat.le_of_ble_eq_true rfl⟩, (htb _ q683), (htb _ sel_M_isDay)⟩ ⟨ro_blind, va_recv (hK.sub (tys' := []) [] rfl) hP (ci := 3) (q0 := 0) rfl rfl, ro_pre hN (hP.sub (ws' := (wMS am cm P G X (am 3) (cm 2) (G 1))) [0, 1, 2, 3, 4, 5, 6, 7, 8, 9, 10, 11, 12, 13, 14, 3] rfl) (hK.sub (tys' := (tMS cm (cm 2))) [0, 1, 2, 3, 4, 5, 6, 7, 8, 9, 10, 11, 12, 13, 2] rfl)⟩ rfl rfl hl.1 rfl (lv_room (Nat.le_of_ble_eq_true rfl)) d_M_wish_10 ⟨Nat.le_of_ble_eq_true rfl, Nat.le_of_ble_eq_true rfl⟩) (fun r_2 hr_2 => ?_)
  subst hr_2
  refine nr_top (y := nI 0) (by rw [hbad]; rfl) ?_
  refine nr_if_eq (tgt := 25) hx hb (by omega) d_M_wish_13 (by decide) (fun c_13 => ?_) (fun c_13 => by exfalso; omega)
  refine nr_iconst hx hb 1 d_M_wish_25 (by decide) ?_
  refine lv_goto (tgt := 30) hx hb d_M_wish_26 (by decide) ?_
  refine lv_istore (lv' := [(6, .int (nI 1)), (0, .ref (am 0)), (1, .int (nI p1)), (2, .int d), (3, .int sf), (4, .int (nI b)), (5, .int wt)]) hx hb d_M_wish_30 hl (by decide) rfl (fun ls hl => ?_)
  refine lv_aload_n hx hb d_M_wish_32 rfl (lv_at hl 1 rfl) ?_
  refine lv_iload hx hb d_M_wish_33 (lv_at hl 0 rfl) ?_
  refine lv_iload hx hb d_M_wish_35 (lv_at hl 6 rfl) ?_
  refine nr_iconst hx hb 1 d_M_wish_37 (by decide) ?_
  refine nr_bipush hx hb 100 d_M_wish_38 (by decide) ?_
  refine nr_calli (va_runS (As := [.int wt, .int (nI 1), .int (nI 100)]) (rest := [.int (nI 1), .ref (am 0)]) ⟨hx, hb, hml, hown, hts⟩ (c_M_in l D wt (nI 1) (nI 100)) ⟨callB_of 3 hts (gTB q_M_in) rfl rfl rfl (htb _ q4) (htb _ q666) hd_M_in ⟨Nat.le_of_ble_eq_true rfl, Nat.le_of_ble_eq_true rfl⟩, (htb _ q667)⟩ ⟨ro_blind, ro_pre hN (hP.sub (ws' := []) [] rfl) (hK.sub (tys' := []) [] rfl)⟩ rfl rfl hl.1 rfl (lv_room (Nat.le_of_ble_eq_true rfl)) d_M_wish_40 ⟨Nat.le_of_ble_eq_true rfl, Nat.le_of_ble_eq_true rfl⟩) (fun r_3 hr_3 => ?_)
  subst hr_3
  refine nr_if_ne (tgt := 50) hx hb b01_lt d_M_wish_43 (by decide) (fun c_43 => ?_) (fun c_43 => ?_)
  · refine nr_iconst hx hb 0 d_M_wish_50 (by decide) ?_
    refine lv_iload hx hb d_M_wish_51 (lv_at hl 0 rfl) ?_
    refine nr_if_ne (tgt := 68) hx hb (by omega) d_M_wish_53 (by decide) (fun c_53 => ?_) (fun c_53 => by exfalso; omega)
    refine nr_iconst hx hb 0 d_M_wish_68 (by decide) ?_
    refine lv_aload_n hx hb d_M_wish_69 rfl (lv_at hl 1 rfl) ?_
    refine va_get (D := D) (ci := 3) (v := .int (nI (P 0 5))) (C := R_M) (T := F_M) (N := 26) hx hb htb u_M hown hK hP 0 rfl rfl 17 (by decide) (htb _ q596) (fun _ h9 => h9) rfl d_M_wish_70 ?_
    refine nr_bipush hx hb 20 d_M_wish_73 (by decide) ?_
    refine nr_icmp_ne (tgt := 82) hx hb (by omega) (by omega) d_M_wish_75 (by decide) (fun c_75 => ?_) (fun c_75 => ?_)
    · refine nr_iconst hx hb 0 d_M_wish_82 (by decide) ?_
      refine nr_callwi (wr := ([] : va_W)) (va_runV (As := [.int (nI 1), .int (nI 0), .int (nI 0), .int (nI 0)]) (rest := []) ⟨hx, hb, hml, hown, hts⟩ (c_M_throwing l D am cm P G X 1 0 0 0 (by decide) (by decide) (by decide) (by decide) H.size) ⟨callB_of 4 hts (gTB q_M_throwing) rfl rfl rfl (htb _ q4) (htb _ q669) hd_M_throwing ⟨Nat.le_of_ble_eq_true rfl, Nat.le_of_ble_eq_true rfl⟩, (htb _ q671), (htb _ sel_M_throwing)⟩ ⟨rw_blind, va_recv (hK.sub (tys' := []) [] rfl) hP (ci := 3) (q0 := 0) rfl rfl, rw_pre hN (hP.sub (ws' := (wM am cm P G X)) [0, 1, 2, 3, 4, 5, 6, 7, 8, 9, 10, 11, 12, 13, 14] rfl) (hK.sub (tys' := (tM cm)) [0, 1, 2, 3, 4, 5, 6, 7, 8, 9, 10, 11, 12, 13] rfl) (hD.sub (ws' := (wM am cm P G X)) [0, 1, 2, 3, 4, 5, 6, 7, 8, 9, 10, 11, 12, 13, 14] (by decide) rfl)⟩ rfl rfl hl.1 rfl (lv_room (Nat.le_of_ble_eq_true rfl)) d_M_wish_83 ⟨Nat.le_of_ble_eq_true rfl, Nat.le_of_ble_eq_true rfl⟩) hP hD hS hA [0, 1, 2, 3, 4, 5, 6, 7, 8, 9, 10, 11, 12, 13, 14] [] rfl rfl (by decide) (by decide) (fun r_4 u_4 H locs hr_4 hP hD hS => ?_)
      subst hr_4
      replace hP := hP.sub (ws' := wM am cm P G (up2 X 0 0 1)) [0, 1, 2, 3, 4, 5, 6, 7, 8, 9, 10, 11, 12, 13, 14] rfl
      replace hD := hD.sub (ws' := wM am cm P G (up2 X 0 0 1)) [0, 1, 2, 3, 4, 5, 6, 7, 8, 9, 10, 11, 12, 13, 14] (by decide) rfl
      refine nr_top (y := nI 1) rfl ?_
      refine nr_if_eq (tgt := 91) hx hb (by omega) d_M_wish_86 (by decide) (fun c_86 => by exfalso; omega) (fun c_86 => ?_)
      refine nr_iconst hx hb 0 d_M_wish_89 (by decide) ?_
      exact W.iret (v := (nI 0)) hx hb hr (fun t ht hW => ⟨⟨_, (), rfl, rfl, by rw [ht]; exact hP, hD⟩, hS.F ht⟩) hS.2.2 d_M_wish_90
    · refine nr_iconst hx hb 1 d_M_wish_78 (by decide) ?_
      refine lv_goto (tgt := 83) hx hb d_M_wish_79 (by decide) ?_
      refine nr_callwi (wr := ([] : va_W)) (va_runV (As := [.int (nI 1), .int (nI 0), .int (nI 0), .int (nI 1)]) (rest := []) ⟨hx, hb, hml, hown, hts⟩ (c_M_throwing l D am cm P G X 1 0 0 1 (by decide) (by decide) (by decide) (by decide) H.size) ⟨callB_of 4 hts (gTB q_M_throwing) rfl rfl rfl (htb _ q4) (htb _ q669) hd_M_throwing ⟨Nat.le_of_ble_eq_true rfl, Nat.le_of_ble_eq_true rfl⟩, (htb _ q671), (htb _ sel_M_throwing)⟩ ⟨rw_blind, va_recv (hK.sub (tys' := []) [] rfl) hP (ci := 3) (q0 := 0) rfl rfl, rw_pre hN (hP.sub (ws' := (wM am cm P G X)) [0, 1, 2, 3, 4, 5, 6, 7, 8, 9, 10, 11, 12, 13, 14] rfl) (hK.sub (tys' := (tM cm)) [0, 1, 2, 3, 4, 5, 6, 7, 8, 9, 10, 11, 12, 13] rfl) (hD.sub (ws' := (wM am cm P G X)) [0, 1, 2, 3, 4, 5, 6, 7, 8, 9, 10, 11, 12, 13, 14] (by decide) rfl)⟩ rfl rfl hl.1 rfl (lv_room (Nat.le_of_ble_eq_true rfl)) d_M_wish_83 ⟨Nat.le_of_ble_eq_true rfl, Nat.le_of_ble_eq_true rfl⟩) hP hD hS hA [0, 1, 2, 3, 4, 5, 6, 7, 8, 9, 10, 11, 12, 13, 14] [] rfl rfl (by decide) (by decide) (fun r_5 u_5 H locs hr_5 hP hD hS => ?_)
      subst hr_5
      replace hP := hP.sub (ws' := wM am cm P G (up2 X 0 0 1)) [0, 1, 2, 3, 4, 5, 6, 7, 8, 9, 10, 11, 12, 13, 14] rfl
      replace hD := hD.sub (ws' := wM am cm P G (up2 X 0 0 1)) [0, 1, 2, 3, 4, 5, 6, 7, 8, 9, 10, 11, 12, 13, 14] (by decide) rfl
      refine nr_top (y := nI 1) rfl ?_
      refine nr_if_eq (tgt := 91) hx hb (by omega) d_M_wish_86 (by decide) (fun c_86 => by exfalso; omega) (fun c_86 => ?_)
      refine nr_iconst hx hb 0 d_M_wish_89 (by decide) ?_
      exact W.iret (v := (nI 0)) hx hb hr (fun t ht hW => ⟨⟨_, (), rfl, rfl, by rw [ht]; exact hP, hD⟩, hS.F ht⟩) hS.2.2 d_M_wish_90
  · refine nr_iconst hx hb 1 d_M_wish_46 (by decide) ?_
    refine lv_goto (tgt := 51) hx hb d_M_wish_47 (by decide) ?_
    refine lv_iload hx hb d_M_wish_51 (lv_at hl 0 rfl) ?_
    refine nr_if_ne (tgt := 68) hx hb (by omega) d_M_wish_53 (by decide) (fun c_53 => ?_) (fun c_53 => by exfalso; omega)
    refine nr_iconst hx hb 0 d_M_wish_68 (by decide) ?_
    refine lv_aload_n hx hb d_M_wish_69 rfl (lv_at hl 1 rfl) ?_
    refine va_get (D := D) (ci := 3) (v := .int (nI (P 0 5))) (C := R_M) (T := F_M) (N := 26) hx hb htb u_M hown hK hP 0 rfl rfl 17 (by decide) (htb _ q596) (fun _ h9 => h9) rfl d_M_wish_70 ?_
    refine nr_bipush hx hb 20 d_M_wish_73 (by decide) ?_
    refine nr_icmp_ne (tgt := 82) hx hb (by omega) (by omega) d_M_wish_75 (by decide) (fun c_75 => ?_) (fun c_75 => ?_)
    · refine nr_iconst hx hb 0 d_M_wish_82 (by decide) ?_
      refine nr_callwi (wr := ([] : va_W)) (va_runV (As := [.int (nI 1), .int (nI 1), .int (nI 0), .int (nI 0)]) (rest := []) ⟨hx, hb, hml, hown, hts⟩ (c_M_throwing l D am cm P G X 1 1 0 0 (by decide) (by decide) (by decide) (by decide) H.size) ⟨callB_of 4 hts (gTB q_M_throwing) rfl rfl rfl (htb _ q4) (htb _ q669) hd_M_throwing ⟨Nat.le_of_ble_eq_true rfl, Nat.le_of_ble_eq_true rfl⟩, (htb _ q671), (htb _ sel_M_throwing)⟩ ⟨rw_blind, va_recv (hK.sub (tys' := []) [] rfl) hP (ci := 3) (q0 := 0) rfl rfl, rw_pre hN (hP.sub (ws' := (wM am cm P G X)) [0, 1, 2, 3, 4, 5, 6, 7, 8, 9, 10, 11, 12, 13, 14] rfl) (hK.sub (tys' := (tM cm)) [0, 1, 2, 3, 4, 5, 6, 7, 8, 9, 10, 11, 12, 13] rfl) (hD.sub (ws' := (wM am cm P G X)) [0, 1, 2, 3, 4, 5, 6, 7, 8, 9, 10, 11, 12, 13, 14] (by decide) rfl)⟩ rfl rfl hl.1 rfl (lv_room (Nat.le_of_ble_eq_true rfl)) d_M_wish_83 ⟨Nat.le_of_ble_eq_true rfl, Nat.le_of_ble_eq_true rfl⟩) hP hD hS hA [0, 1, 2, 3, 4, 5, 6, 7, 8, 9, 10, 11, 12, 13, 14] [] rfl rfl (by decide) (by decide) (fun r_6 u_6 H locs hr_6 hP hD hS => ?_)
      subst hr_6
      replace hP := hP.sub (ws' := wM am cm P G (up2 X 0 0 1)) [0, 1, 2, 3, 4, 5, 6, 7, 8, 9, 10, 11, 12, 13, 14] rfl
      replace hD := hD.sub (ws' := wM am cm P G (up2 X 0 0 1)) [0, 1, 2, 3, 4, 5, 6, 7, 8, 9, 10, 11, 12, 13, 14] (by decide) rfl
      refine nr_top (y := nI 1) rfl ?_
      refine nr_if_eq (tgt := 91) hx hb (by omega) d_M_wish_86 (by decide) (fun c_86 => by exfalso; omega) (fun c_86 => ?_)
      refine nr_iconst hx hb 0 d_M_wish_89 (by decide) ?_
      exact W.iret (v := (nI 0)) hx hb hr (fun t ht hW => ⟨⟨_, (), rfl, rfl, by rw [ht]; exact hP, hD⟩, hS.F ht⟩) hS.2.2 d_M_wish_90
    · refine nr_iconst hx hb 1 d_M_wish_78 (by decide) ?_
      refine lv_goto (tgt := 83) hx hb d_M_wish_79 (by decide) ?_
      refine nr_callwi (wr := ([] : va_W)) (va_runV (As := [.int (nI 1), .int (nI 1), .int (nI 0), .int (nI 1)]) (rest := []) ⟨hx, hb, hml, hown, hts⟩ (c_M_throwing l D am cm P G X 1 1 0 1 (by decide) (by decide) (by decide) (by decide) H.size) ⟨callB_of 4 hts (gTB q_M_throwing) rfl rfl rfl (htb _ q4) (htb _ q669) hd_M_throwing ⟨Nat.le_of_ble_eq_true rfl, Nat.le_of_ble_eq_true rfl⟩, (htb _ q671), (htb _ sel_M_throwing)⟩ ⟨rw_blind, va_recv (hK.sub (tys' := []) [] rfl) hP (ci := 3) (q0 := 0) rfl rfl, rw_pre hN (hP.sub (ws' := (wM am cm P G X)) [0, 1, 2, 3, 4, 5, 6, 7, 8, 9, 10, 11, 12, 13, 14] rfl) (hK.sub (tys' := (tM cm)) [0, 1, 2, 3, 4, 5, 6, 7, 8, 9, 10, 11, 12, 13] rfl) (hD.sub (ws' := (wM am cm P G X)) [0, 1, 2, 3, 4, 5, 6, 7, 8, 9, 10, 11, 12, 13, 14] (by decide) rfl)⟩ rfl rfl hl.1 rfl (lv_room (Nat.le_of_ble_eq_true rfl)) d_M_wish_83 ⟨Nat.le_of_ble_eq_true rfl, Nat.le_of_ble_eq_true rfl⟩) hP hD hS hA [0, 1, 2, 3, 4, 5, 6, 7, 8, 9, 10, 11, 12, 13, 14] [] rfl rfl (by decide) (by decide) (fun r_7 u_7 H locs hr_7 hP hD hS => ?_)
      subst hr_7
      replace hP := hP.sub (ws' := wM am cm P G (up2 X 0 0 1)) [0, 1, 2, 3, 4, 5, 6, 7, 8, 9, 10, 11, 12, 13, 14] rfl
      replace hD := hD.sub (ws' := wM am cm P G (up2 X 0 0 1)) [0, 1, 2, 3, 4, 5, 6, 7, 8, 9, 10, 11, 12, 13, 14] (by decide) rfl
      refine nr_top (y := nI 1) rfl ?_
      refine nr_if_eq (tgt := 91) hx hb (by omega) d_M_wish_86 (by decide) (fun c_86 => by exfalso; omega) (fun c_86 => ?_)
      refine nr_iconst hx hb 0 d_M_wish_89 (by decide) ?_
      exact W.iret (v := (nI 0)) hx hb hr (fun t ht hW => ⟨⟨_, (), rfl, rfl, by rw [ht]; exact hP, hD⟩, hS.F ht⟩) hS.2.2 d_M_wish_90
set_option maxHeartbeats 4000000 in
set_option maxRecDepth 100000 in
theorem j_M_wish_1c (l : Launch) (D : va_G) (am : Nat → Nat) (cm : Nat → ClassId) (P G X : Nat → Nat → Nat) (hP0 : okP P) (hG0 : okG G) (hX0 : okX X) (p1 d b : Nat) (sf wt : Int32) (h_p1 : (p1 < P 0 0)) (h_d : (d < P 0 1)) (h_b : b ≤ 1) (hbad : decide (nI 0 ≤ sf ∧ sf ≤ nI 3) = false) (sz : Nat) : Met l y_M_wish w_M_wish { frames := 2, cells := 0, slots := 0, locals := 43 } (rw_P [.ref (am 0), .int (nI p1), .int (nI d), .int sf, .int (nI b), .int wt] D (wM am cm P G X) (tM cm) sz) (rw_Qi (fun (r : Int32) (u : Unit) => r = nI 0) D (wM am cm P G X) (fun u => wM am cm P G (up2 X 0 0 1)) sz) 0 0 (va_A (wM am cm P G X) sz) := by
  refine Met.ofW (cc := b_M_wish) (maxL := 7) (ret := (some .int)) (by decide) rfl ?_
  intro p e s m args below meth c s₁ B hml hv
  obtain ⟨rfl, hsz, hN, hP, hK, hD0⟩ := hv
  have hx := B.exec
  have hb := B.bytes
  have hr := B.returns
  have hts := atoms_spec (ws := w_M_wish) B.pre
  have htb : ∀ w ∈ TBG, w.before [.ref (am 0), .int (nI p1), .int (nI d), .int sf, .int (nI b), .int wt].toArray s = true := fun w h => hts w (List.mem_cons_of_mem _ h)
  have hown : s.vm.findClass R_M = some m.cls := findClass_of_methodNamed B.named
  have hlocks := B.notSynchronized
  subst hsz
  have hD := hD0.self (sz := s.heap.size)
  unfold rw_Qi
  generalize hAe : va_A (wM am cm P G X) s.heap.size = A at hD ⊢
  have hA : ∀ q : Nat, s.heap.size ≤ q → A q := fun q h => by rw [← hAe]; exact Or.inr h
  have hS : va_S A s.heap s.heap [] := va_S.rf
  have hl := lv_entry ([.ref (am 0), .int (nI p1), .int (nI d), .int sf, .int (nI b), .int wt]) (n := 7) (Nat.le_of_ble_eq_true rfl)
  rw [lg_entry_eq]
  generalize (lg_sl ([.ref (am 0), .int (nI p1), .int (nI d), .int sf, .int (nI b), .int wt]) ++ List.replicate (7 - (lg_sl ([.ref (am 0), .int (nI p1), .int (nI d), .int sf, .int (nI b), .int wt])).length) Slot.unset).toArray = ls at hl ⊢
  have hl : lv_has ls 7 [(0, .ref (am 0)), (1, .int (nI p1)), (2, .int (nI d)), (3, .int sf), (4, .int (nI b)), (5, .int wt)] := hl
  refine nr_start hP hS (fun H locs hP hS => ?_)
  obtain ⟨h00, h01, h02, h03, h04, h05, hp1, hp2, hp3, hp4, hp5, hp6⟩ := id hP0
  obtain ⟨k00, k01, hg1, hg2⟩ := id hG0
  obtain ⟨x00, x01, x02, x03, hx1, hx2, hx3, hx4, hx5, hx6, hx7⟩ := id hX0
  refine lv_aload_n hx hb d_M_wish_0 rfl (lv_at hl 0 rfl) ?_
  refine lv_iload_n hx hb d_M_wish_1 rfl (lv_at hl 1 rfl) ?_
  refine nr_calli (va_runV (As := [.int (nI p1)]) (rest := []) ⟨hx, hb, hml, hown, hts⟩ (c_M_isPerson l D am cm P G X (am 3) (cm 2) (G 1) hP0 hG0 hX0 hg1 (nI p1)) ⟨callB_of 1 hts (gTB q_M_isPerson) rfl rfl rfl (htb _ q4) (htb _ q693) hd_M_isPerson ⟨Nat.le_of_ble_eq_true rfl, Nat.le_of_ble_eq_true rfl⟩, (htb _ q695), (htb _ sel_M_isPerson)⟩ ⟨ro_blind, va_recv (hK.sub (tys' := []) [] rfl) hP (ci := 3) (q0 := 0) rfl rfl, ro_pre hN (hP.sub (ws' := (wMS am cm P G X (am 3) (cm 2) (G 1))) [0, 1, 2, 3, 4, 5, 6, 7, 8, 9, 10, 11, 12, 13, 14, 3] rfl) (hK.sub (tys' := (tMS cm (cm 2))) [0, 1, 2, 3, 4, 5, 6, 7, 8, 9, 10, 11, 12, 13, 2] rfl)⟩ rfl rfl hl.1 rfl (lv_room (Nat.le_of_ble_eq_true rfl)) d_M_wish_2 ⟨Nat.le_of_ble_eq_true rfl, Nat.le_of_ble_eq_true rfl⟩) (fun r_1 hr_1 => ?_)
  subst hr_1
  refine nr_top (y := nI 1) (by rw [inR_n h_p1 (by omega)]; rfl) ?_
  refine nr_if_eq (tgt := 25) hx hb (by omega) d_M_wish_5 (by decide) (fun c_5 => by exfalso; omega) (fun c_5 => ?_)
  refine lv_aload_n hx hb d_M_wish_8 rfl (lv_at hl 0 rfl) ?_
  refine lv_iload_n hx hb d_M_wish_9 rfl (lv_at hl 2 rfl) ?_
  refine nr_calli (va_runV (As := [.int (nI d)]) (rest := []) ⟨hx, hb, hml, hown, hts⟩ (c_M_isDay l D am cm P G X (am 3) (cm 2) (G 1) hP0 hG0 hX0 hg1 (nI d)) ⟨callB_of 1 hts (gTB q_M_isDay) rfl rfl rfl (htb _ q4) (htb _ q681) hd_M_isDay ⟨Nat.le_of_ble_eq_true rfl, Nat.le_of_ble_eq_true rfl⟩, (htb _ q683), (htb _ sel_M_isDay)⟩ ⟨ro_blind, va_recv (hK.sub (tys' := []) [] rfl) hP (ci := 3) (q0 := 0) rfl rfl, ro_pre hN (hP.sub (ws' := (wMS am cm P G X (am 3) (cm 2) (G 1))) [0, 1, 2, 3, 4, 5, 6, 7, 8, 9, 10, 11, 12, 13, 14, 3] rfl) (hK.sub (tys' := (tMS cm (cm 2))) [0, 1, 2, 3, 4, 5, 6, 7, 8, 9, 10, 11, 12, 13, 2] rfl)⟩ rfl rfl hl.1 rfl (lv_room (Nat.le_of_ble_eq_true rfl)) d_M_wish_10 ⟨Nat.le_of_ble_eq_true rfl, Nat.le_of_ble_eq_true rfl⟩) (fun r_2 hr_2 => ?_)
  subst hr_2
  refine nr_top (y := nI 1) (by rw [inR_n h_d (by omega)]; rfl) ?_
  refine nr_if_eq (tgt := 25) hx hb (by omega) d_M_wish_13 (by decide) (fun c_13 => by exfalso; omega) (fun c_13 => ?_)
  refine lv_iload_n hx hb d_M_wish_16 rfl (lv_at hl 3 rfl) ?_
  refine nr_iconst hx hb 0 d_M_wish_17 (by decide) ?_
  refine nr_iconst hx hb 3 d_M_wish_18 (by decide) ?_
  refine nr_calli (va_runS (As := [.int sf, .int (nI 0), .int (nI 3)]) (rest := []) ⟨hx, hb, hml, hown, hts⟩ (c_M_in l D sf (nI 0) (nI 3)) ⟨callB_of 3 hts (gTB q_M_in) rfl rfl rfl (htb _ q4) (htb _ q666) hd_M_in ⟨Nat.le_of_ble_eq_true rfl, Nat.le_of_ble_eq_true rfl⟩, (htb _ q667)⟩ ⟨ro_blind, ro_pre hN (hP.sub (ws' := []) [] rfl) (hK.sub (tys' := []) [] rfl)⟩ rfl rfl hl.1 rfl (lv_room (Nat.le_of_ble_eq_true rfl)) d_M_wish_19 ⟨Nat.le_of_ble_eq_true rfl, Nat.le_of_ble_eq_true rfl⟩) (fun r_3 hr_3 => ?_)
  subst hr_3
  refine nr_top (y := nI 0) (by rw [hbad]; rfl) ?_
  refine nr_if_ne (tgt := 29) hx hb (by omega) d_M_wish_22 (by decide) (fun c_22 => by exfalso; omega) (fun c_22 => ?_)
  refine nr_iconst hx hb 1 d_M_wish_25 (by decide) ?_
  refine lv_goto (tgt := 30) hx hb d_M_wish_26 (by decide) ?_
  refine lv_istore (lv' := [(6, .int (nI 1)), (0, .ref (am 0)), (1, .int (nI p1)), (2, .int (nI d)), (3, .int sf), (4, .int (nI b)), (5, .int wt)]) hx hb d_M_wish_30 hl (by decide) rfl (fun ls hl => ?_)
  refine lv_aload_n hx hb d_M_wish_32 rfl (lv_at hl 1 rfl) ?_
  refine lv_iload hx hb d_M_wish_33 (lv_at hl 0 rfl) ?_
  refine lv_iload hx hb d_M_wish_35 (lv_at hl 6 rfl) ?_
  refine nr_iconst hx hb 1 d_M_wish_37 (by decide) ?_
  refine nr_bipush hx hb 100 d_M_wish_38 (by decide) ?_
  refine nr_calli (va_runS (As := [.int wt, .int (nI 1), .int (nI 100)]) (rest := [.int (nI 1), .ref (am 0)]) ⟨hx, hb, hml, hown, hts⟩ (c_M_in l D wt (nI 1) (nI 100)) ⟨callB_of 3 hts (gTB q_M_in) rfl rfl rfl (htb _ q4) (htb _ q666) hd_M_in ⟨Nat.le_of_ble_eq_true rfl, Nat.le_of_ble_eq_true rfl⟩, (htb _ q667)⟩ ⟨ro_blind, ro_pre hN (hP.sub (ws' := []) [] rfl) (hK.sub (tys' := []) [] rfl)⟩ rfl rfl hl.1 rfl (lv_room (Nat.le_of_ble_eq_true rfl)) d_M_wish_40 ⟨Nat.le_of_ble_eq_true rfl, Nat.le_of_ble_eq_true rfl⟩) (fun r_4 hr_4 => ?_)
  subst hr_4
  refine nr_if_ne (tgt := 50) hx hb b01_lt d_M_wish_43 (by decide) (fun c_43 => ?_) (fun c_43 => ?_)
  · refine nr_iconst hx hb 0 d_M_wish_50 (by decide) ?_
    refine lv_iload hx hb d_M_wish_51 (lv_at hl 0 rfl) ?_
    refine nr_if_ne (tgt := 68) hx hb (by omega) d_M_wish_53 (by decide) (fun c_53 => ?_) (fun c_53 => by exfalso; omega)
    refine nr_iconst hx hb 0 d_M_wish_68 (by decide) ?_
    refine lv_aload_n hx hb d_M_wish_69 rfl (lv_at hl 1 rfl) ?_
    refine va_get (D := D) (ci := 3) (v := .int (nI (P 0 5))) (C := R_M) (T := F_M) (N := 26) hx hb htb u_M hown hK hP 0 rfl rfl 17 (by decide) (htb _ q596) (fun _ h9 => h9) rfl d_M_wish_70 ?_
    refine nr_bipush hx hb 20 d_M_wish_73 (by decide) ?_
    refine nr_icmp_ne (tgt := 82) hx hb (by omega) (by omega) d_M_wish_75 (by decide) (fun c_75 => ?_) (fun c_75 => ?_)
    · refine nr_iconst hx hb 0 d_M_wish_82 (by decide) ?_
      refine nr_callwi (wr := ([] : va_W)) (va_runV (As := [.int (nI 1), .int (nI 0), .int (nI 0), .int (nI 0)]) (rest := []) ⟨hx, hb, hml, hown, hts⟩ (c_M_throwing l D am cm P G X 1 0 0 0 (by decide) (by decide) (by decide) (by decide) H.size) ⟨callB_of 4 hts (gTB q_M_throwing) rfl rfl rfl (htb _ q4) (htb _ q669) hd_M_throwing ⟨Nat.le_of_ble_eq_true rfl, Nat.le_of_ble_eq_true rfl⟩, (htb _ q671), (htb _ sel_M_throwing)⟩ ⟨rw_blind, va_recv (hK.sub (tys' := []) [] rfl) hP (ci := 3) (q0 := 0) rfl rfl, rw_pre hN (hP.sub (ws' := (wM am cm P G X)) [0, 1, 2, 3, 4, 5, 6, 7, 8, 9, 10, 11, 12, 13, 14] rfl) (hK.sub (tys' := (tM cm)) [0, 1, 2, 3, 4, 5, 6, 7, 8, 9, 10, 11, 12, 13] rfl) (hD.sub (ws' := (wM am cm P G X)) [0, 1, 2, 3, 4, 5, 6, 7, 8, 9, 10, 11, 12, 13, 14] (by decide) rfl)⟩ rfl rfl hl.1 rfl (lv_room (Nat.le_of_ble_eq_true rfl)) d_M_wish_83 ⟨Nat.le_of_ble_eq_true rfl, Nat.le_of_ble_eq_true rfl⟩) hP hD hS hA [0, 1, 2, 3, 4, 5, 6, 7, 8, 9, 10, 11, 12, 13, 14] [] rfl rfl (by decide) (by decide) (fun r_5 u_5 H locs hr_5 hP hD hS => ?_)
      subst hr_5
      replace hP := hP.sub (ws' := wM am cm P G (up2 X 0 0 1)) [0, 1, 2, 3, 4, 5, 6, 7, 8, 9, 10, 11, 12, 13, 14] rfl
      replace hD := hD.sub (ws' := wM am cm P G (up2 X 0 0 1)) [0, 1, 2, 3, 4, 5, 6, 7, 8, 9, 10, 11, 12, 13, 14] (by decide) rfl
      refine nr_top (y := nI 1) rfl ?_
      refine nr_if_eq (tgt := 91) hx hb (by omega) d_M_wish_86 (by decide) (fun c_86 => by exfalso; omega) (fun c_86 => ?_)
      refine nr_iconst hx hb 0 d_M_wish_89 (by decide) ?_
      exact W.iret (v := (nI 0)) hx hb hr (fun t ht hW => ⟨⟨_, (), rfl, rfl, by rw [ht]; exact hP, hD⟩, hS.F ht⟩) hS.2.2 d_M_wish_90
    · refine nr_iconst hx hb 1 d_M_wish_78 (by decide) ?_
      refine lv_goto (tgt := 83) hx hb d_M_wish_79 (by decide) ?_
      refine nr_callwi (wr := ([] : va_W)) (va_runV (As := [.int (nI 1), .int (nI 0), .int (nI 0), .int (nI 1)]) (rest := []) ⟨hx, hb, hml, hown, hts⟩ (c_M_throwing l D am cm P G X 1 0 0 1 (by decide) (by decide) (by decide) (by decide) H.size) ⟨callB_of 4 hts (gTB q_M_throwing) rfl rfl rfl (htb _ q4) (htb _ q669) hd_M_throwing ⟨Nat.le_of_ble_eq_true rfl, Nat.le_of_ble_eq_true rfl⟩, (htb _ q671), (htb _ sel_M_throwing)⟩ ⟨rw_blind, va_recv (hK.sub (tys' := []) [] rfl) hP (ci := 3) (q0 := 0) rfl rfl, rw_pre hN (hP.sub (ws' := (wM am cm P G X)) [0, 1, 2, 3, 4, 5, 6, 7, 8, 9, 10, 11, 12, 13, 14] rfl) (hK.sub (tys' := (tM cm)) [0, 1, 2, 3, 4, 5, 6, 7, 8, 9, 10, 11, 12, 13] rfl) (hD.sub (ws' := (wM am cm P G X)) [0, 1, 2, 3, 4, 5, 6, 7, 8, 9, 10, 11, 12, 13, 14] (by decide) rfl)⟩ rfl rfl hl.1 rfl (lv_room (Nat.le_of_ble_eq_true rfl)) d_M_wish_83 ⟨Nat.le_of_ble_eq_true rfl, Nat.le_of_ble_eq_true rfl⟩) hP hD hS hA [0, 1, 2, 3, 4, 5, 6, 7, 8, 9, 10, 11, 12, 13, 14] [] rfl rfl (by decide) (by decide) (fun r_6 u_6 H locs hr_6 hP hD hS => ?_)
      subst hr_6
      replace hP := hP.sub (ws' := wM am cm P G (up2 X 0 0 1)) [0, 1, 2, 3, 4, 5, 6, 7, 8, 9, 10, 11, 12, 13, 14] rfl
      replace hD := hD.sub (ws' := wM am cm P G (up2 X 0 0 1)) [0, 1, 2, 3, 4, 5, 6, 7, 8, 9, 10, 11, 12, 13, 14] (by decide) rfl
      refine nr_top (y := nI 1) rfl ?_
      refine nr_if_eq (tgt := 91) hx hb (by omega) d_M_wish_86 (by decide) (fun c_86 => by exfalso; omega) (fun c_86 => ?_)
      refine nr_iconst hx hb 0 d_M_wish_89 (by decide) ?_
      exact W.iret (v := (nI 0)) hx hb hr (fun t ht hW => ⟨⟨_, (), rfl, rfl, by rw [ht]; exact hP, hD⟩, hS.F ht⟩) hS.2.2 d_M_wish_90
  · refine nr_iconst hx hb 1 d_M_wish_46 (by decide) ?_
    refine lv_goto (tgt := 51) hx hb d_M_wish_47 (by decide) ?_
    refine lv_iload hx hb d_M_wish_51 (lv_at hl 0 rfl) ?_
    refine nr_if_ne (tgt := 68) hx hb (by omega) d_M_wish_53 (by decide) (fun c_53 => ?_) (fun c_53 => by exfalso; omega)
    refine nr_iconst hx hb 0 d_M_wish_68 (by decide) ?_
    refine lv_aload_n hx hb d_M_wish_69 rfl (lv_at hl 1 rfl) ?_
    refine va_get (D := D) (ci := 3) (v := .int (nI (P 0 5))) (C := R_M) (T := F_M) (N := 26) hx hb htb u_M hown hK hP 0 rfl rfl 17 (by decide) (htb _ q596) (fun _ h9 => h9) rfl d_M_wish_70 ?_
    refine nr_bipush hx hb 20 d_M_wish_73 (by decide) ?_
    refine nr_icmp_ne (tgt := 82) hx hb (by omega) (by omega) d_M_wish_75 (by decide) (fun c_75 => ?_) (fun c_75 => ?_)
    · refine nr_iconst hx hb 0 d_M_wish_82 (by decide) ?_
      refine nr_callwi (wr := ([] : va_W)) (va_runV (As := [.int (nI 1), .int (nI 1), .int (nI 0), .int (nI 0)]) (rest := []) ⟨hx, hb, hml, hown, hts⟩ (c_M_throwing l D am cm P G X 1 1 0 0 (by decide) (by decide) (by decide) (by decide) H.size) ⟨callB_of 4 hts (gTB q_M_throwing) rfl rfl rfl (htb _ q4) (htb _ q669) hd_M_throwing ⟨Nat.le_of_ble_eq_true rfl, Nat.le_of_ble_eq_true rfl⟩, (htb _ q671), (htb _ sel_M_throwing)⟩ ⟨rw_blind, va_recv (hK.sub (tys' := []) [] rfl) hP (ci := 3) (q0 := 0) rfl rfl, rw_pre hN (hP.sub (ws' := (wM am cm P G X)) [0, 1, 2, 3, 4, 5, 6, 7, 8, 9, 10, 11, 12, 13, 14] rfl) (hK.sub (tys' := (tM cm)) [0, 1, 2, 3, 4, 5, 6, 7, 8, 9, 10, 11, 12, 13] rfl) (hD.sub (ws' := (wM am cm P G X)) [0, 1, 2, 3, 4, 5, 6, 7, 8, 9, 10, 11, 12, 13, 14] (by decide) rfl)⟩ rfl rfl hl.1 rfl (lv_room (Nat.le_of_ble_eq_true rfl)) d_M_wish_83 ⟨Nat.le_of_ble_eq_true rfl, Nat.le_of_ble_eq_true rfl⟩) hP hD hS hA [0, 1, 2, 3, 4, 5, 6, 7, 8, 9, 10, 11, 12, 13, 14] [] rfl rfl (by decide) (by decide) (fun r_7 u_7 H locs hr_7 hP hD hS => ?_)
      subst hr_7
      replace hP := hP.sub (ws' := wM am cm P G (up2 X 0 0 1)) [0, 1, 2, 3, 4, 5, 6, 7, 8, 9, 10, 11, 12, 13, 14] rfl
      replace hD := hD.sub (ws' := wM am cm P G (up2 X 0 0 1)) [0, 1, 2, 3, 4, 5, 6, 7, 8, 9, 10, 11, 12, 13, 14] (by decide) rfl
      refine nr_top (y := nI 1) rfl ?_
      refine nr_if_eq (tgt := 91) hx hb (by omega) d_M_wish_86 (by decide) (fun c_86 => by exfalso; omega) (fun c_86 => ?_)
      refine nr_iconst hx hb 0 d_M_wish_89 (by decide) ?_
      exact W.iret (v := (nI 0)) hx hb hr (fun t ht hW => ⟨⟨_, (), rfl, rfl, by rw [ht]; exact hP, hD⟩, hS.F ht⟩) hS.2.2 d_M_wish_90
    · refine nr_iconst hx hb 1 d_M_wish_78 (by decide) ?_
      refine lv_goto (tgt := 83) hx hb d_M_wish_79 (by decide) ?_
      refine nr_callwi (wr := ([] : va_W)) (va_runV (As := [.int (nI 1), .int (nI 1), .int (nI 0), .int (nI 1)]) (rest := []) ⟨hx, hb, hml, hown, hts⟩ (c_M_throwing l D am cm P G X 1 1 0 1 (by decide) (by decide) (by decide) (by decide) H.size) ⟨callB_of 4 hts (gTB q_M_throwing) rfl rfl rfl (htb _ q4) (htb _ q669) hd_M_throwing ⟨Nat.le_of_ble_eq_true rfl, Nat.le_of_ble_eq_true rfl⟩, (htb _ q671), (htb _ sel_M_throwing)⟩ ⟨rw_blind, va_recv (hK.sub (tys' := []) [] rfl) hP (ci := 3) (q0 := 0) rfl rfl, rw_pre hN (hP.sub (ws' := (wM am cm P G X)) [0, 1, 2, 3, 4, 5, 6, 7, 8, 9, 10, 11, 12, 13, 14] rfl) (hK.sub (tys' := (tM cm)) [0, 1, 2, 3, 4, 5, 6, 7, 8, 9, 10, 11, 12, 13] rfl) (hD.sub (ws' := (wM am cm P G X)) [0, 1, 2, 3, 4, 5, 6, 7, 8, 9, 10, 11, 12, 13, 14] (by decide) rfl)⟩ rfl rfl hl.1 rfl (lv_room (Nat.le_of_ble_eq_true rfl)) d_M_wish_83 ⟨Nat.le_of_ble_eq_true rfl, Nat.le_of_ble_eq_true rfl⟩) hP hD hS hA [0, 1, 2, 3, 4, 5, 6, 7, 8, 9, 10, 11, 12, 13, 14] [] rfl rfl (by decide) (by decide) (fun r_8 u_8 H locs hr_8 hP hD hS => ?_)
      subst hr_8
      replace hP := hP.sub (ws' := wM am cm P G (up2 X 0 0 1)) [0, 1, 2, 3, 4, 5, 6, 7, 8, 9, 10, 11, 12, 13, 14] rfl
      replace hD := hD.sub (ws' := wM am cm P G (up2 X 0 0 1)) [0, 1, 2, 3, 4, 5, 6, 7, 8, 9, 10, 11, 12, 13, 14] (by decide) rfl
      refine nr_top (y := nI 1) rfl ?_
      refine nr_if_eq (tgt := 91) hx hb (by omega) d_M_wish_86 (by decide) (fun c_86 => by exfalso; omega) (fun c_86 => ?_)
      refine nr_iconst hx hb 0 d_M_wish_89 (by decide) ?_
      exact W.iret (v := (nI 0)) hx hb hr (fun t ht hW => ⟨⟨_, (), rfl, rfl, by rw [ht]; exact hP, hD⟩, hS.F ht⟩) hS.2.2 d_M_wish_90
set_option maxHeartbeats 4000000 in
set_option maxRecDepth 100000 in
theorem j_M_wish_2 (l : Launch) (D : va_G) (am : Nat → Nat) (cm : Nat → ClassId) (P G X : Nat → Nat → Nat) (hP0 : okP P) (hG0 : okG G) (hX0 : okX X) (p1 d sf b : Nat) (wt : Int32) (h_p1 : (p1 < P 0 0)) (h_d : (d < P 0 1)) (h_sf : (0 ≤ sf ∧ sf ≤ 3)) (h_b : b ≤ 1) (hbad : decide (nI 1 ≤ wt ∧ wt ≤ nI 100) = false) (sz : Nat) : Met l y_M_wish w_M_wish { frames := 2, cells := 0, slots := 0, locals := 43 } (rw_P [.ref (am 0), .int (nI p1), .int (nI d), .int (nI sf), .int (nI b), .int wt] D (wM am cm P G X) (tM cm) sz) (rw_Qi (fun (r : Int32) (u : Unit) => r = nI 0) D (wM am cm P G X) (fun u => wM am cm P G (up2 X 0 0 2)) sz) 0 0 (va_A (wM am cm P G X) sz) := by
  refine Met.ofW (cc := b_M_wish) (maxL := 7) (ret := (some .int)) (by decide) rfl ?_
  intro p e s m args below meth c s₁ B hml hv
  obtain ⟨rfl, hsz, hN, hP, hK, hD0⟩ := hv
  have hx := B.exec
  have hb := B.bytes
  have hr := B.returns
  have hts := atoms_spec (ws := w_M_wish) B.pre
  have htb : ∀ w ∈ TBG, w.before [.ref (am 0), .int (nI p1), .int (nI d), .int (nI sf), .int (nI b), .int wt].toArray s = true := fun w h => hts w (List.mem_cons_of_mem _ h)
  have hown : s.vm.findClass R_M = some m.cls := findClass_of_methodNamed B.named
  have hlocks := B.notSynchronized
  subst hsz
  have hD := hD0.self (sz := s.heap.size)
  unfold rw_Qi
  generalize hAe : va_A (wM am cm P G X) s.heap.size = A at hD ⊢
  have hA : ∀ q : Nat, s.heap.size ≤ q → A q := fun q h => by rw [← hAe]; exact Or.inr h
  have hS : va_S A s.heap s.heap [] := va_S.rf
  have hl := lv_entry ([.ref (am 0), .int (nI p1), .int (nI d), .int (nI sf), .int (nI b), .int wt]) (n := 7) (Nat.le_of_ble_eq_true rfl)
  rw [lg_entry_eq]
  generalize (lg_sl ([.ref (am 0), .int (nI p1), .int (nI d), .int (nI sf), .int (nI b), .int wt]) ++ List.replicate (7 - (lg_sl ([.ref (am 0), .int (nI p1), .int (nI d), .int (nI sf), .int (nI b), .int wt])).length) Slot.unset).toArray = ls at hl ⊢
  have hl : lv_has ls 7 [(0, .ref (am 0)), (1, .int (nI p1)), (2, .int (nI d)), (3, .int (nI sf)), (4, .int (nI b)), (5, .int wt)] := hl
  refine nr_start hP hS (fun H locs hP hS => ?_)
  obtain ⟨h00, h01, h02, h03, h04, h05, hp1, hp2, hp3, hp4, hp5, hp6⟩ := id hP0
  obtain ⟨k00, k01, hg1, hg2⟩ := id hG0
  obtain ⟨x00, x01, x02, x03, hx1, hx2, hx3, hx4, hx5, hx6, hx7⟩ := id hX0
  refine lv_aload_n hx hb d_M_wish_0 rfl (lv_at hl 0 rfl) ?_
  refine lv_iload_n hx hb d_M_wish_1 rfl (lv_at hl 1 rfl) ?_
  refine nr_calli (va_runV (As := [.int (nI p1)]) (rest := []) ⟨hx, hb, hml, hown, hts⟩ (c_M_isPerson l D am cm P G X (am 3) (cm 2) (G 1) hP0 hG0 hX0 hg1 (nI p1)) ⟨callB_of 1 hts (gTB q_M_isPerson) rfl rfl rfl (htb _ q4) (htb _ q693) hd_M_isPerson ⟨Nat.le_of_ble_eq_true rfl, Nat.le_of_ble_eq_true rfl⟩, (htb _ q695), (htb _ sel_M_isPerson)⟩ ⟨ro_blind, va_recv (hK.sub (tys' := []) [] rfl) hP (ci := 3) (q0 := 0) rfl rfl, ro_pre hN (hP.sub (ws' := (wMS am cm P G X (am 3) (cm 2) (G 1))) [0, 1, 2, 3, 4, 5, 6, 7, 8, 9, 10, 11, 12, 13, 14, 3] rfl) (hK.sub (tys' := (tMS cm (cm 2))) [0, 1, 2, 3, 4, 5, 6, 7, 8, 9, 10, 11, 12, 13, 2] rfl)⟩ rfl rfl hl.1 rfl (lv_room (Nat.le_of_ble_eq_true rfl)) d_M_wish_2 ⟨Nat.le_of_ble_eq_true rfl, Nat.le_of_ble_eq_true rfl⟩) (fun r_1 hr_1 => ?_)
  subst hr_1
  refine nr_top (y := nI 1) (by rw [inR_n h_p1 (by omega)]; rfl) ?_
  refine nr_if_eq (tgt := 25) hx hb (by omega) d_M_wish_5 (by decide) (fun c_5 => by exfalso; omega) (fun c_5 => ?_)
  refine lv_aload_n hx hb d_M_wish_8 rfl (lv_at hl 0 rfl) ?_
  refine lv_iload_n hx hb d_M_wish_9 rfl (lv_at hl 2 rfl) ?_
  refine nr_calli (va_runV (As := [.int (nI d)]) (rest := []) ⟨hx, hb, hml, hown, hts⟩ (c_M_isDay l D am cm P G X (am 3) (cm 2) (G 1) hP0 hG0 hX0 hg1 (nI d)) ⟨callB_of 1 hts (gTB q_M_isDay) rfl rfl rfl (htb _ q4) (htb _ q681) hd_M_isDay ⟨Nat.le_of_ble_eq_true rfl, Nat.le_of_ble_eq_true rfl⟩, (htb _ q683), (htb _ sel_M_isDay)⟩ ⟨ro_blind, va_recv (hK.sub (tys' := []) [] rfl) hP (ci := 3) (q0 := 0) rfl rfl, ro_pre hN (hP.sub (ws' := (wMS am cm P G X (am 3) (cm 2) (G 1))) [0, 1, 2, 3, 4, 5, 6, 7, 8, 9, 10, 11, 12, 13, 14, 3] rfl) (hK.sub (tys' := (tMS cm (cm 2))) [0, 1, 2, 3, 4, 5, 6, 7, 8, 9, 10, 11, 12, 13, 2] rfl)⟩ rfl rfl hl.1 rfl (lv_room (Nat.le_of_ble_eq_true rfl)) d_M_wish_10 ⟨Nat.le_of_ble_eq_true rfl, Nat.le_of_ble_eq_true rfl⟩) (fun r_2 hr_2 => ?_)
  subst hr_2
  refine nr_top (y := nI 1) (by rw [inR_n h_d (by omega)]; rfl) ?_
  refine nr_if_eq (tgt := 25) hx hb (by omega) d_M_wish_13 (by decide) (fun c_13 => by exfalso; omega) (fun c_13 => ?_)
  refine lv_iload_n hx hb d_M_wish_16 rfl (lv_at hl 3 rfl) ?_
  refine nr_iconst hx hb 0 d_M_wish_17 (by decide) ?_
  refine nr_iconst hx hb 3 d_M_wish_18 (by decide) ?_
  refine nr_calli (va_runS (As := [.int (nI sf), .int (nI 0), .int (nI 3)]) (rest := []) ⟨hx, hb, hml, hown, hts⟩ (c_M_in l D (nI sf) (nI 0) (nI 3)) ⟨callB_of 3 hts (gTB q_M_in) rfl rfl rfl (htb _ q4) (htb _ q666) hd_M_in ⟨Nat.le_of_ble_eq_true rfl, Nat.le_of_ble_eq_true rfl⟩, (htb _ q667)⟩ ⟨ro_blind, ro_pre hN (hP.sub (ws' := []) [] rfl) (hK.sub (tys' := []) [] rfl)⟩ rfl rfl hl.1 rfl (lv_room (Nat.le_of_ble_eq_true rfl)) d_M_wish_19 ⟨Nat.le_of_ble_eq_true rfl, Nat.le_of_ble_eq_true rfl⟩) (fun r_3 hr_3 => ?_)
  subst hr_3
  refine nr_top (y := nI 1) (by rw [in_n (h_sf).1 (h_sf).2 (by omega)]; rfl) ?_
  refine nr_if_ne (tgt := 29) hx hb (by omega) d_M_wish_22 (by decide) (fun c_22 => ?_) (fun c_22 => by exfalso; omega)
  refine nr_iconst hx hb 0 d_M_wish_29 (by decide) ?_
  refine lv_istore (lv' := [(6, .int (nI 0)), (0, .ref (am 0)), (1, .int (nI p1)), (2, .int (nI d)), (3, .int (nI sf)), (4, .int (nI b)), (5, .int wt)]) hx hb d_M_wish_30 hl (by decide) rfl (fun ls hl => ?_)
  refine lv_aload_n hx hb d_M_wish_32 rfl (lv_at hl 1 rfl) ?_
  refine lv_iload hx hb d_M_wish_33 (lv_at hl 0 rfl) ?_
  refine lv_iload hx hb d_M_wish_35 (lv_at hl 6 rfl) ?_
  refine nr_iconst hx hb 1 d_M_wish_37 (by decide) ?_
  refine nr_bipush hx hb 100 d_M_wish_38 (by decide) ?_
  refine nr_calli (va_runS (As := [.int wt, .int (nI 1), .int (nI 100)]) (rest := [.int (nI 0), .ref (am 0)]) ⟨hx, hb, hml, hown, hts⟩ (c_M_in l D wt (nI 1) (nI 100)) ⟨callB_of 3 hts (gTB q_M_in) rfl rfl rfl (htb _ q4) (htb _ q666) hd_M_in ⟨Nat.le_of_ble_eq_true rfl, Nat.le_of_ble_eq_true rfl⟩, (htb _ q667)⟩ ⟨ro_blind, ro_pre hN (hP.sub (ws' := []) [] rfl) (hK.sub (tys' := []) [] rfl)⟩ rfl rfl hl.1 rfl (lv_room (Nat.le_of_ble_eq_true rfl)) d_M_wish_40 ⟨Nat.le_of_ble_eq_true rfl, Nat.le_of_ble_eq_true rfl⟩) (fun r_4 hr_4 => ?_)
  subst hr_4
  refine nr_top (y := nI 0) (by rw [hbad]; rfl) ?_
  refine nr_if_ne (tgt := 50) hx hb (by omega) d_M_wish_43 (by decide) (fun c_43 => by exfalso; omega) (fun c_43 => ?_)
  refine nr_iconst hx hb 1 d_M_wish_46 (by decide) ?_
  refine lv_goto (tgt := 51) hx hb d_M_wish_47 (by decide) ?_
  refine lv_iload hx hb d_M_wish_51 (lv_at hl 0 rfl) ?_
  refine nr_if_ne (tgt := 68) hx hb (by omega) d_M_wish_53 (by decide) (fun c_53 => by exfalso; omega) (fun c_53 => ?_)
  refine lv_iload_n hx hb d_M_wish_56 rfl (lv_at hl 3 rfl) ?_
  refine lv_aload_n hx hb d_M_wish_57 rfl (lv_at hl 1 rfl) ?_
  refine va_get (D := D) (ci := 3) (v := .int (nI (G 0 0))) (C := R_M) (T := F_M) (N := 26) hx hb htb u_M hown hK hP 0 rfl rfl 3 (by decide) (htb _ q582) (fun _ h9 => h9) rfl d_M_wish_58 ?_
  refine nr_icmp_ge (tgt := 68) hx hb (by omega) (by omega) d_M_wish_61 (by decide) (fun c_61 => ?_) (fun c_61 => ?_)
  · refine nr_iconst hx hb 0 d_M_wish_68 (by decide) ?_
    refine lv_aload_n hx hb d_M_wish_69 rfl (lv_at hl 1 rfl) ?_
    refine va_get (D := D) (ci := 3) (v := .int (nI (P 0 5))) (C := R_M) (T := F_M) (N := 26) hx hb htb u_M hown hK hP 0 rfl rfl 17 (by decide) (htb _ q596) (fun _ h9 => h9) rfl d_M_wish_70 ?_
    refine nr_bipush hx hb 20 d_M_wish_73 (by decide) ?_
    refine nr_icmp_ne (tgt := 82) hx hb (by omega) (by omega) d_M_wish_75 (by decide) (fun c_75 => ?_) (fun c_75 => ?_)
    · refine nr_iconst hx hb 0 d_M_wish_82 (by decide) ?_
      refine nr_callwi (wr := ([] : va_W)) (va_runV (As := [.int (nI 0), .int (nI 1), .int (nI 0), .int (nI 0)]) (rest := []) ⟨hx, hb, hml, hown, hts⟩ (c_M_throwing l D am cm P G X 0 1 0 0 (by decide) (by decide) (by decide) (by decide) H.size) ⟨callB_of 4 hts (gTB q_M_throwing) rfl rfl rfl (htb _ q4) (htb _ q669) hd_M_throwing ⟨Nat.le_of_ble_eq_true rfl, Nat.le_of_ble_eq_true rfl⟩, (htb _ q671), (htb _ sel_M_throwing)⟩ ⟨rw_blind, va_recv (hK.sub (tys' := []) [] rfl) hP (ci := 3) (q0 := 0) rfl rfl, rw_pre hN (hP.sub (ws' := (wM am cm P G X)) [0, 1, 2, 3, 4, 5, 6, 7, 8, 9, 10, 11, 12, 13, 14] rfl) (hK.sub (tys' := (tM cm)) [0, 1, 2, 3, 4, 5, 6, 7, 8, 9, 10, 11, 12, 13] rfl) (hD.sub (ws' := (wM am cm P G X)) [0, 1, 2, 3, 4, 5, 6, 7, 8, 9, 10, 11, 12, 13, 14] (by decide) rfl)⟩ rfl rfl hl.1 rfl (lv_room (Nat.le_of_ble_eq_true rfl)) d_M_wish_83 ⟨Nat.le_of_ble_eq_true rfl, Nat.le_of_ble_eq_true rfl⟩) hP hD hS hA [0, 1, 2, 3, 4, 5, 6, 7, 8, 9, 10, 11, 12, 13, 14] [] rfl rfl (by decide) (by decide) (fun r_5 u_5 H locs hr_5 hP hD hS => ?_)
      subst hr_5
      replace hP := hP.sub (ws' := wM am cm P G (up2 X 0 0 2)) [0, 1, 2, 3, 4, 5, 6, 7, 8, 9, 10, 11, 12, 13, 14] rfl
      replace hD := hD.sub (ws' := wM am cm P G (up2 X 0 0 2)) [0, 1, 2, 3, 4, 5, 6, 7, 8, 9, 10, 11, 12, 13, 14] (by decide) rfl
      refine nr_top (y := nI 1) rfl ?_
      refine nr_if_eq (tgt := 91) hx hb (by omega) d_M_wish_86 (by decide) (fun c_86 => by exfalso; omega) (fun c_86 => ?_)
      refine nr_iconst hx hb 0 d_M_wish_89 (by decide) ?_
      exact W.iret (v := (nI 0)) hx hb hr (fun t ht hW => ⟨⟨_, (), rfl, rfl, by rw [ht]; exact hP, hD⟩, hS.F ht⟩) hS.2.2 d_M_wish_90
    · refine nr_iconst hx hb 1 d_M_wish_78 (by decide) ?_
      refine lv_goto (tgt := 83) hx hb d_M_wish_79 (by decide) ?_
      refine nr_callwi (wr := ([] : va_W)) (va_runV (As := [.int (nI 0), .int (nI 1), .int (nI 0), .int (nI 1)]) (rest := []) ⟨hx, hb, hml, hown, hts⟩ (c_M_throwing l D am cm P G X 0 1 0 1 (by decide) (by decide) (by decide) (by decide) H.size) ⟨callB_of 4 hts (gTB q_M_throwing) rfl rfl rfl (htb _ q4) (htb _ q669) hd_M_throwing ⟨Nat.le_of_ble_eq_true rfl, Nat.le_of_ble_eq_true rfl⟩, (htb _ q671), (htb _ sel_M_throwing)⟩ ⟨rw_blind, va_recv (hK.sub (tys' := []) [] rfl) hP (ci := 3) (q0 := 0) rfl rfl, rw_pre hN (hP.sub (ws' := (wM am cm P G X)) [0, 1, 2, 3, 4, 5, 6, 7, 8, 9, 10, 11, 12, 13, 14] rfl) (hK.sub (tys' := (tM cm)) [0, 1, 2, 3, 4, 5, 6, 7, 8, 9, 10, 11, 12, 13] rfl) (hD.sub (ws' := (wM am cm P G X)) [0, 1, 2, 3, 4, 5, 6, 7, 8, 9, 10, 11, 12, 13, 14] (by decide) rfl)⟩ rfl rfl hl.1 rfl (lv_room (Nat.le_of_ble_eq_true rfl)) d_M_wish_83 ⟨Nat.le_of_ble_eq_true rfl, Nat.le_of_ble_eq_true rfl⟩) hP hD hS hA [0, 1, 2, 3, 4, 5, 6, 7, 8, 9, 10, 11, 12, 13, 14] [] rfl rfl (by decide) (by decide) (fun r_6 u_6 H locs hr_6 hP hD hS => ?_)
      subst hr_6
      replace hP := hP.sub (ws' := wM am cm P G (up2 X 0 0 2)) [0, 1, 2, 3, 4, 5, 6, 7, 8, 9, 10, 11, 12, 13, 14] rfl
      replace hD := hD.sub (ws' := wM am cm P G (up2 X 0 0 2)) [0, 1, 2, 3, 4, 5, 6, 7, 8, 9, 10, 11, 12, 13, 14] (by decide) rfl
      refine nr_top (y := nI 1) rfl ?_
      refine nr_if_eq (tgt := 91) hx hb (by omega) d_M_wish_86 (by decide) (fun c_86 => by exfalso; omega) (fun c_86 => ?_)
      refine nr_iconst hx hb 0 d_M_wish_89 (by decide) ?_
      exact W.iret (v := (nI 0)) hx hb hr (fun t ht hW => ⟨⟨_, (), rfl, rfl, by rw [ht]; exact hP, hD⟩, hS.F ht⟩) hS.2.2 d_M_wish_90
  · refine nr_iconst hx hb 1 d_M_wish_64 (by decide) ?_
    refine lv_goto (tgt := 69) hx hb d_M_wish_65 (by decide) ?_
    refine lv_aload_n hx hb d_M_wish_69 rfl (lv_at hl 1 rfl) ?_
    refine va_get (D := D) (ci := 3) (v := .int (nI (P 0 5))) (C := R_M) (T := F_M) (N := 26) hx hb htb u_M hown hK hP 0 rfl rfl 17 (by decide) (htb _ q596) (fun _ h9 => h9) rfl d_M_wish_70 ?_
    refine nr_bipush hx hb 20 d_M_wish_73 (by decide) ?_
    refine nr_icmp_ne (tgt := 82) hx hb (by omega) (by omega) d_M_wish_75 (by decide) (fun c_75 => ?_) (fun c_75 => ?_)
    · refine nr_iconst hx hb 0 d_M_wish_82 (by decide) ?_
      refine nr_callwi (wr := ([] : va_W)) (va_runV (As := [.int (nI 0), .int (nI 1), .int (nI 1), .int (nI 0)]) (rest := []) ⟨hx, hb, hml, hown, hts⟩ (c_M_throwing l D am cm P G X 0 1 1 0 (by decide) (by decide) (by decide) (by decide) H.size) ⟨callB_of 4 hts (gTB q_M_throwing) rfl rfl rfl (htb _ q4) (htb _ q669) hd_M_throwing ⟨Nat.le_of_ble_eq_true rfl, Nat.le_of_ble_eq_true rfl⟩, (htb _ q671), (htb _ sel_M_throwing)⟩ ⟨rw_blind, va_recv (hK.sub (tys' := []) [] rfl) hP (ci := 3) (q0 := 0) rfl rfl, rw_pre hN (hP.sub (ws' := (wM am cm P G X)) [0, 1, 2, 3, 4, 5, 6, 7, 8, 9, 10, 11, 12, 13, 14] rfl) (hK.sub (tys' := (tM cm)) [0, 1, 2, 3, 4, 5, 6, 7, 8, 9, 10, 11, 12, 13] rfl) (hD.sub (ws' := (wM am cm P G X)) [0, 1, 2, 3, 4, 5, 6, 7, 8, 9, 10, 11, 12, 13, 14] (by decide) rfl)⟩ rfl rfl hl.1 rfl (lv_room (Nat.le_of_ble_eq_true rfl)) d_M_wish_83 ⟨Nat.le_of_ble_eq_true rfl, Nat.le_of_ble_eq_true rfl⟩) hP hD hS hA [0, 1, 2, 3, 4, 5, 6, 7, 8, 9, 10, 11, 12, 13, 14] [] rfl rfl (by decide) (by decide) (fun r_7 u_7 H locs hr_7 hP hD hS => ?_)
      subst hr_7
      replace hP := hP.sub (ws' := wM am cm P G (up2 X 0 0 2)) [0, 1, 2, 3, 4, 5, 6, 7, 8, 9, 10, 11, 12, 13, 14] rfl
      replace hD := hD.sub (ws' := wM am cm P G (up2 X 0 0 2)) [0, 1, 2, 3, 4, 5, 6, 7, 8, 9, 10, 11, 12, 13, 14] (by decide) rfl
      refine nr_top (y := nI 1) rfl ?_
      refine nr_if_eq (tgt := 91) hx hb (by omega) d_M_wish_86 (by decide) (fun c_86 => by exfalso; omega) (fun c_86 => ?_)
      refine nr_iconst hx hb 0 d_M_wish_89 (by decide) ?_
      exact W.iret (v := (nI 0)) hx hb hr (fun t ht hW => ⟨⟨_, (), rfl, rfl, by rw [ht]; exact hP, hD⟩, hS.F ht⟩) hS.2.2 d_M_wish_90
    · refine nr_iconst hx hb 1 d_M_wish_78 (by decide) ?_
      refine lv_goto (tgt := 83) hx hb d_M_wish_79 (by decide) ?_
      refine nr_callwi (wr := ([] : va_W)) (va_runV (As := [.int (nI 0), .int (nI 1), .int (nI 1), .int (nI 1)]) (rest := []) ⟨hx, hb, hml, hown, hts⟩ (c_M_throwing l D am cm P G X 0 1 1 1 (by decide) (by decide) (by decide) (by decide) H.size) ⟨callB_of 4 hts (gTB q_M_throwing) rfl rfl rfl (htb _ q4) (htb _ q669) hd_M_throwing ⟨Nat.le_of_ble_eq_true rfl, Nat.le_of_ble_eq_true rfl⟩, (htb _ q671), (htb _ sel_M_throwing)⟩ ⟨rw_blind, va_recv (hK.sub (tys' := []) [] rfl) hP (ci := 3) (q0 := 0) rfl rfl, rw_pre hN (hP.sub (ws' := (wM am cm P G X)) [0, 1, 2, 3, 4, 5, 6, 7, 8, 9, 10, 11, 12, 13, 14] rfl) (hK.sub (tys' := (tM cm)) [0, 1, 2, 3, 4, 5, 6, 7, 8, 9, 10, 11, 12, 13] rfl) (hD.sub (ws' := (wM am cm P G X)) [0, 1, 2, 3, 4, 5, 6, 7, 8, 9, 10, 11, 12, 13, 14] (by decide) rfl)⟩ rfl rfl hl.1 rfl (lv_room (Nat.le_of_ble_eq_true rfl)) d_M_wish_83 ⟨Nat.le_of_ble_eq_true rfl, Nat.le_of_ble_eq_true rfl⟩) hP hD hS hA [0, 1, 2, 3, 4, 5, 6, 7, 8, 9, 10, 11, 12, 13, 14] [] rfl rfl (by decide) (by decide) (fun r_8 u_8 H locs hr_8 hP hD hS => ?_)
      subst hr_8
      replace hP := hP.sub (ws' := wM am cm P G (up2 X 0 0 2)) [0, 1, 2, 3, 4, 5, 6, 7, 8, 9, 10, 11, 12, 13, 14] rfl
      replace hD := hD.sub (ws' := wM am cm P G (up2 X 0 0 2)) [0, 1, 2, 3, 4, 5, 6, 7, 8, 9, 10, 11, 12, 13, 14] (by decide) rfl
      refine nr_top (y := nI 1) rfl ?_
      refine nr_if_eq (tgt := 91) hx hb (by omega) d_M_wish_86 (by decide) (fun c_86 => by exfalso; omega) (fun c_86 => ?_)
      refine nr_iconst hx hb 0 d_M_wish_89 (by decide) ?_
      exact W.iret (v := (nI 0)) hx hb hr (fun t ht hW => ⟨⟨_, (), rfl, rfl, by rw [ht]; exact hP, hD⟩, hS.F ht⟩) hS.2.2 d_M_wish_90
set_option maxHeartbeats 4000000 in
set_option maxRecDepth 100000 in
theorem j_M_wish_3 (l : Launch) (D : va_G) (am : Nat → Nat) (cm : Nat → ClassId) (P G X : Nat → Nat → Nat) (hP0 : okP P) (hG0 : okG G) (hX0 : okX X) (p1 d sf b wt : Nat) (h_p1 : (p1 < P 0 0)) (h_d : (d < P 0 1)) (h_sf : (0 ≤ sf ∧ sf ≤ 3)) (h_wt : (1 ≤ wt ∧ wt ≤ 100)) (h_b : b ≤ 1) (hfz : d < G 0 0) (sz : Nat) : Met l y_M_wish w_M_wish { frames := 2, cells := 0, slots := 0, locals := 43 } (rw_P [.ref (am 0), .int (nI p1), .int (nI d), .int (nI sf), .int (nI b), .int (nI wt)] D (wM am cm P G X) (tM cm) sz) (rw_Qi (fun (r : Int32) (u : Unit) => r = nI 0) D (wM am cm P G X) (fun u => wM am cm P G (up2 X 0 0 3)) sz) 0 0 (va_A (wM am cm P G X) sz) := by
  refine Met.ofW (cc := b_M_wish) (maxL := 7) (ret := (some .int)) (by decide) rfl ?_
  intro p e s m args below meth c s₁ B hml hv
  obtain ⟨rfl, hsz, hN, hP, hK, hD0⟩ := hv
  have hx := B.exec
  have hb := B.bytes
  have hr := B.returns
  have hts := atoms_spec (ws := w_M_wish) B.pre
  have htb : ∀ w ∈ TBG, w.before [.ref (am 0), .int (nI p1), .int (nI d), .int (nI sf), .int (nI b), .int (nI wt)].toArray s = true := fun w h => hts w (List.mem_cons_of_mem _ h)
  have hown : s.vm.findClass R_M = some m.cls := findClass_of_methodNamed B.named
  have hlocks := B.notSynchronized
  subst hsz
  have hD := hD0.self (sz := s.heap.size)
  unfold rw_Qi
  generalize hAe : va_A (wM am cm P G X) s.heap.size = A at hD ⊢
  have hA : ∀ q : Nat, s.heap.size ≤ q → A q := fun q h => by rw [← hAe]; exact Or.inr h
  have hS : va_S A s.heap s.heap [] := va_S.rf
  have hl := lv_entry ([.ref (am 0), .int (nI p1), .int (nI d), .int (nI sf), .int (nI b), .int (nI wt)]) (n := 7) (Nat.le_of_ble_eq_true rfl)
  rw [lg_entry_eq]
  generalize (lg_sl ([.ref (am 0), .int (nI p1), .int (nI d), .int (nI sf), .int (nI b), .int (nI wt)]) ++ List.replicate (7 - (lg_sl ([.ref (am 0), .int (nI p1), .int (nI d), .int (nI sf), .int (nI b), .int (nI wt)])).length) Slot.unset).toArray = ls at hl ⊢
  have hl : lv_has ls 7 [(0, .ref (am 0)), (1, .int (nI p1)), (2, .int (nI d)), (3, .int (nI sf)), (4, .int (nI b)), (5, .int (nI wt))] := hl
  refine nr_start hP hS (fun H locs hP hS => ?_)
  obtain ⟨h00, h01, h02, h03, h04, h05, hp1, hp2, hp3, hp4, hp5, hp6⟩ := id hP0
  obtain ⟨k00, k01, hg1, hg2⟩ := id hG0
  obtain ⟨x00, x01, x02, x03, hx1, hx2, hx3, hx4, hx5, hx6, hx7⟩ := id hX0
  refine lv_aload_n hx hb d_M_wish_0 rfl (lv_at hl 0 rfl) ?_
  refine lv_iload_n hx hb d_M_wish_1 rfl (lv_at hl 1 rfl) ?_
  refine nr_calli (va_runV (As := [.int (nI p1)]) (rest := []) ⟨hx, hb, hml, hown, hts⟩ (c_M_isPerson l D am cm P G X (am 3) (cm 2) (G 1) hP0 hG0 hX0 hg1 (nI p1)) ⟨callB_of 1 hts (gTB q_M_isPerson) rfl rfl rfl (htb _ q4) (htb _ q693) hd_M_isPerson ⟨Nat.le_of_ble_eq_true rfl, Nat.le_of_ble_eq_true rfl⟩, (htb _ q695), (htb _ sel_M_isPerson)⟩ ⟨ro_blind, va_recv (hK.sub (tys' := []) [] rfl) hP (ci := 3) (q0 := 0) rfl rfl, ro_pre hN (hP.sub (ws' := (wMS am cm P G X (am 3) (cm 2) (G 1))) [0, 1, 2, 3, 4, 5, 6, 7, 8, 9, 10, 11, 12, 13, 14, 3] rfl) (hK.sub (tys' := (tMS cm (cm 2))) [0, 1, 2, 3, 4, 5, 6, 7, 8, 9, 10, 11, 12, 13, 2] rfl)⟩ rfl rfl hl.1 rfl (lv_room (Nat.le_of_ble_eq_true rfl)) d_M_wish_2 ⟨Nat.le_of_ble_eq_true rfl, Nat.le_of_ble_eq_true rfl⟩) (fun r_1 hr_1 => ?_)
  subst hr_1
  refine nr_top (y := nI 1) (by rw [inR_n h_p1 (by omega)]; rfl) ?_
  refine nr_if_eq (tgt := 25) hx hb (by omega) d_M_wish_5 (by decide) (fun c_5 => by exfalso; omega) (fun c_5 => ?_)
  refine lv_aload_n hx hb d_M_wish_8 rfl (lv_at hl 0 rfl) ?_
  refine lv_iload_n hx hb d_M_wish_9 rfl (lv_at hl 2 rfl) ?_
  refine nr_calli (va_runV (As := [.int (nI d)]) (rest := []) ⟨hx, hb, hml, hown, hts⟩ (c_M_isDay l D am cm P G X (am 3) (cm 2) (G 1) hP0 hG0 hX0 hg1 (nI d)) ⟨callB_of 1 hts (gTB q_M_isDay) rfl rfl rfl (htb _ q4) (htb _ q681) hd_M_isDay ⟨Nat.le_of_ble_eq_true rfl, Nat.le_of_ble_eq_true rfl⟩, (htb _ q683), (htb _ sel_M_isDay)⟩ ⟨ro_blind, va_recv (hK.sub (tys' := []) [] rfl) hP (ci := 3) (q0 := 0) rfl rfl, ro_pre hN (hP.sub (ws' := (wMS am cm P G X (am 3) (cm 2) (G 1))) [0, 1, 2, 3, 4, 5, 6, 7, 8, 9, 10, 11, 12, 13, 14, 3] rfl) (hK.sub (tys' := (tMS cm (cm 2))) [0, 1, 2, 3, 4, 5, 6, 7, 8, 9, 10, 11, 12, 13, 2] rfl)⟩ rfl rfl hl.1 rfl (lv_room (Nat.le_of_ble_eq_true rfl)) d_M_wish_10 ⟨Nat.le_of_ble_eq_true rfl, Nat.le_of_ble_eq_true rfl⟩) (fun r_2 hr_2 => ?_)
  subst hr_2
  refine nr_top (y := nI 1) (by rw [inR_n h_d (by omega)]; rfl) ?_
  refine nr_if_eq (tgt := 25) hx hb (by omega) d_M_wish_13 (by decide) (fun c_13 => by exfalso; omega) (fun c_13 => ?_)
  refine lv_iload_n hx hb d_M_wish_16 rfl (lv_at hl 3 rfl) ?_
  refine nr_iconst hx hb 0 d_M_wish_17 (by decide) ?_
  refine nr_iconst hx hb 3 d_M_wish_18 (by decide) ?_
  refine nr_calli (va_runS (As := [.int (nI sf), .int (nI 0), .int (nI 3)]) (rest := []) ⟨hx, hb, hml, hown, hts⟩ (c_M_in l D (nI sf) (nI 0) (nI 3)) ⟨callB_of 3 hts (gTB q_M_in) rfl rfl rfl (htb _ q4) (htb _ q666) hd_M_in ⟨Nat.le_of_ble_eq_true rfl, Nat.le_of_ble_eq_true rfl⟩, (htb _ q667)⟩ ⟨ro_blind, ro_pre hN (hP.sub (ws' := []) [] rfl) (hK.sub (tys' := []) [] rfl)⟩ rfl rfl hl.1 rfl (lv_room (Nat.le_of_ble_eq_true rfl)) d_M_wish_19 ⟨Nat.le_of_ble_eq_true rfl, Nat.le_of_ble_eq_true rfl⟩) (fun r_3 hr_3 => ?_)
  subst hr_3
  refine nr_top (y := nI 1) (by rw [in_n (h_sf).1 (h_sf).2 (by omega)]; rfl) ?_
  refine nr_if_ne (tgt := 29) hx hb (by omega) d_M_wish_22 (by decide) (fun c_22 => ?_) (fun c_22 => by exfalso; omega)
  refine nr_iconst hx hb 0 d_M_wish_29 (by decide) ?_
  refine lv_istore (lv' := [(6, .int (nI 0)), (0, .ref (am 0)), (1, .int (nI p1)), (2, .int (nI d)), (3, .int (nI sf)), (4, .int (nI b)), (5, .int (nI wt))]) hx hb d_M_wish_30 hl (by decide) rfl (fun ls hl => ?_)
  refine lv_aload_n hx hb d_M_wish_32 rfl (lv_at hl 1 rfl) ?_
  refine lv_iload hx hb d_M_wish_33 (lv_at hl 0 rfl) ?_
  refine lv_iload hx hb d_M_wish_35 (lv_at hl 6 rfl) ?_
  refine nr_iconst hx hb 1 d_M_wish_37 (by decide) ?_
  refine nr_bipush hx hb 100 d_M_wish_38 (by decide) ?_
  refine nr_calli (va_runS (As := [.int (nI wt), .int (nI 1), .int (nI 100)]) (rest := [.int (nI 0), .ref (am 0)]) ⟨hx, hb, hml, hown, hts⟩ (c_M_in l D (nI wt) (nI 1) (nI 100)) ⟨callB_of 3 hts (gTB q_M_in) rfl rfl rfl (htb _ q4) (htb _ q666) hd_M_in ⟨Nat.le_of_ble_eq_true rfl, Nat.le_of_ble_eq_true rfl⟩, (htb _ q667)⟩ ⟨ro_blind, ro_pre hN (hP.sub (ws' := []) [] rfl) (hK.sub (tys' := []) [] rfl)⟩ rfl rfl hl.1 rfl (lv_room (Nat.le_of_ble_eq_true rfl)) d_M_wish_40 ⟨Nat.le_of_ble_eq_true rfl, Nat.le_of_ble_eq_true rfl⟩) (fun r_4 hr_4 => ?_)
  subst hr_4
  refine nr_top (y := nI 1) (by rw [in_n (h_wt).1 (h_wt).2 (by omega)]; rfl) ?_
  refine nr_if_ne (tgt := 50) hx hb (by omega) d_M_wish_43 (by decide) (fun c_43 => ?_) (fun c_43 => by exfalso; omega)
  refine nr_iconst hx hb 0 d_M_wish_50 (by decide) ?_
  refine lv_iload hx hb d_M_wish_51 (lv_at hl 0 rfl) ?_
  refine nr_if_ne (tgt := 68) hx hb (by omega) d_M_wish_53 (by decide) (fun c_53 => by exfalso; omega) (fun c_53 => ?_)
  refine lv_iload_n hx hb d_M_wish_56 rfl (lv_at hl 3 rfl) ?_
  refine lv_aload_n hx hb d_M_wish_57 rfl (lv_at hl 1 rfl) ?_
  refine va_get (D := D) (ci := 3) (v := .int (nI (G 0 0))) (C := R_M) (T := F_M) (N := 26) hx hb htb u_M hown hK hP 0 rfl rfl 3 (by decide) (htb _ q582) (fun _ h9 => h9) rfl d_M_wish_58 ?_
  refine nr_icmp_ge (tgt := 68) hx hb (by omega) (by omega) d_M_wish_61 (by decide) (fun c_61 => by exfalso; omega) (fun c_61 => ?_)
  refine nr_iconst hx hb 1 d_M_wish_64 (by decide) ?_
  refine lv_goto (tgt := 69) hx hb d_M_wish_65 (by decide) ?_
  refine lv_aload_n hx hb d_M_wish_69 rfl (lv_at hl 1 rfl) ?_
  refine va_get (D := D) (ci := 3) (v := .int (nI (P 0 5))) (C := R_M) (T := F_M) (N := 26) hx hb htb u_M hown hK hP 0 rfl rfl 17 (by decide) (htb _ q596) (fun _ h9 => h9) rfl d_M_wish_70 ?_
  refine nr_bipush hx hb 20 d_M_wish_73 (by decide) ?_
  refine nr_icmp_ne (tgt := 82) hx hb (by omega) (by omega) d_M_wish_75 (by decide) (fun c_75 => ?_) (fun c_75 => ?_)
  · refine nr_iconst hx hb 0 d_M_wish_82 (by decide) ?_
    refine nr_callwi (wr := ([] : va_W)) (va_runV (As := [.int (nI 0), .int (nI 0), .int (nI 1), .int (nI 0)]) (rest := []) ⟨hx, hb, hml, hown, hts⟩ (c_M_throwing l D am cm P G X 0 0 1 0 (by decide) (by decide) (by decide) (by decide) H.size) ⟨callB_of 4 hts (gTB q_M_throwing) rfl rfl rfl (htb _ q4) (htb _ q669) hd_M_throwing ⟨Nat.le_of_ble_eq_true rfl, Nat.le_of_ble_eq_true rfl⟩, (htb _ q671), (htb _ sel_M_throwing)⟩ ⟨rw_blind, va_recv (hK.sub (tys' := []) [] rfl) hP (ci := 3) (q0 := 0) rfl rfl, rw_pre hN (hP.sub (ws' := (wM am cm P G X)) [0, 1, 2, 3, 4, 5, 6, 7, 8, 9, 10, 11, 12, 13, 14] rfl) (hK.sub (tys' := (tM cm)) [0, 1, 2, 3, 4, 5, 6, 7, 8, 9, 10, 11, 12, 13] rfl) (hD.sub (ws' := (wM am cm P G X)) [0, 1, 2, 3, 4, 5, 6, 7, 8, 9, 10, 11, 12, 13, 14] (by decide) rfl)⟩ rfl rfl hl.1 rfl (lv_room (Nat.le_of_ble_eq_true rfl)) d_M_wish_83 ⟨Nat.le_of_ble_eq_true rfl, Nat.le_of_ble_eq_true rfl⟩) hP hD hS hA [0, 1, 2, 3, 4, 5, 6, 7, 8, 9, 10, 11, 12, 13, 14] [] rfl rfl (by decide) (by decide) (fun r_5 u_5 H locs hr_5 hP hD hS => ?_)
    subst hr_5
    replace hP := hP.sub (ws' := wM am cm P G (up2 X 0 0 3)) [0, 1, 2, 3, 4, 5, 6, 7, 8, 9, 10, 11, 12, 13, 14] rfl
    replace hD := hD.sub (ws' := wM am cm P G (up2 X 0 0 3)) [0, 1, 2, 3, 4, 5, 6, 7, 8, 9, 10, 11, 12, 13, 14] (by decide) rfl
    refine nr_top (y := nI 1) rfl ?_
    refine nr_if_eq (tgt := 91) hx hb (by omega) d_M_wish_86 (by decide) (fun c_86 => by exfalso; omega) (fun c_86 => ?_)
    refine nr_iconst hx hb 0 d_M_wish_89 (by decide) ?_
    exact W.iret (v := (nI 0)) hx hb hr (fun t ht hW => ⟨⟨_, (), rfl, rfl, by rw [ht]; exact hP, hD⟩, hS.F ht⟩) hS.2.2 d_M_wish_90
  · refine nr_iconst hx hb 1 d_M_wish_78 (by decide) ?_
    refine lv_goto (tgt := 83) hx hb d_M_wish_79 (by decide) ?_
    refine nr_callwi (wr := ([] : va_W)) (va_runV (As := [.int (nI 0), .int (nI 0), .int (nI 1), .int (nI 1)]) (rest := []) ⟨hx, hb, hml, hown, hts⟩ (c_M_throwing l D am cm P G X 0 0 1 1 (by decide) (by decide) (by decide) (by decide) H.size) ⟨callB_of 4 hts (gTB q_M_throwing) rfl rfl rfl (htb _ q4) (htb _ q669) hd_M_throwing ⟨Nat.le_of_ble_eq_true rfl, Nat.le_of_ble_eq_true rfl⟩, (htb _ q671), (htb _ sel_M_throwing)⟩ ⟨rw_blind, va_recv (hK.sub (tys' := []) [] rfl) hP (ci := 3) (q0 := 0) rfl rfl, rw_pre hN (hP.sub (ws' := (wM am cm P G X)) [0, 1, 2, 3, 4, 5, 6, 7, 8, 9, 10, 11, 12, 13, 14] rfl) (hK.sub (tys' := (tM cm)) [0, 1, 2, 3, 4, 5, 6, 7, 8, 9, 10, 11, 12, 13] rfl) (hD.sub (ws' := (wM am cm P G X)) [0, 1, 2, 3, 4, 5, 6, 7, 8, 9, 10, 11, 12, 13, 14] (by decide) rfl)⟩ rfl rfl hl.1 rfl (lv_room (Nat.le_of_ble_eq_true rfl)) d_M_wish_83 ⟨Nat.le_of_ble_eq_true rfl, Nat.le_of_ble_eq_true rfl⟩) hP hD hS hA [0, 1, 2, 3, 4, 5, 6, 7, 8, 9, 10, 11, 12, 13, 14] [] rfl rfl (by decide) (by decide) (fun r_6 u_6 H locs hr_6 hP hD hS => ?_)
    subst hr_6
    replace hP := hP.sub (ws' := wM am cm P G (up2 X 0 0 3)) [0, 1, 2, 3, 4, 5, 6, 7, 8, 9, 10, 11, 12, 13, 14] rfl
    replace hD := hD.sub (ws' := wM am cm P G (up2 X 0 0 3)) [0, 1, 2, 3, 4, 5, 6, 7, 8, 9, 10, 11, 12, 13, 14] (by decide) rfl
    refine nr_top (y := nI 1) rfl ?_
    refine nr_if_eq (tgt := 91) hx hb (by omega) d_M_wish_86 (by decide) (fun c_86 => by exfalso; omega) (fun c_86 => ?_)
    refine nr_iconst hx hb 0 d_M_wish_89 (by decide) ?_
    exact W.iret (v := (nI 0)) hx hb hr (fun t ht hW => ⟨⟨_, (), rfl, rfl, by rw [ht]; exact hP, hD⟩, hS.F ht⟩) hS.2.2 d_M_wish_90
set_option maxHeartbeats 4000000 in
set_option maxRecDepth 100000 in
theorem j_M_wish_4 (l : Launch) (D : va_G) (am : Nat → Nat) (cm : Nat → ClassId) (P G X : Nat → Nat → Nat) (hP0 : okP P) (hG0 : okG G) (hX0 : okX X) (p1 d sf b wt : Nat) (h_p1 : (p1 < P 0 0)) (h_d : (d < P 0 1)) (h_sf : (0 ≤ sf ∧ sf ≤ 3)) (h_wt : (1 ≤ wt ∧ wt ≤ 100)) (h_b : b ≤ 1) (hfz : G 0 0 ≤ d) (hfull : P 0 5 = 20) (sz : Nat) : Met l y_M_wish w_M_wish { frames := 2, cells := 0, slots := 0, locals := 43 } (rw_P [.ref (am 0), .int (nI p1), .int (nI d), .int (nI sf), .int (nI b), .int (nI wt)] D (wM am cm P G X) (tM cm) sz) (rw_Qi (fun (r : Int32) (u : Unit) => r = nI 0) D (wM am cm P G X) (fun u => wM am cm P G (up2 X 0 0 4)) sz) 0 0 (va_A (wM am cm P G X) sz) := by
  refine Met.ofW (cc := b_M_wish) (maxL := 7) (ret := (some .int)) (by decide) rfl ?_
  intro p e s m args below meth c s₁ B hml hv
  obtain ⟨rfl, hsz, hN, hP, hK, hD0⟩ := hv
  have hx := B.exec
  have hb := B.bytes
  have hr := B.returns
  have hts := atoms_spec (ws := w_M_wish) B.pre
  have htb : ∀ w ∈ TBG, w.before [.ref (am 0), .int (nI p1), .int (nI d), .int (nI sf), .int (nI b), .int (nI wt)].toArray s = true := fun w h => hts w (List.mem_cons_of_mem _ h)
  have hown : s.vm.findClass R_M = some m.cls := findClass_of_methodNamed B.named
  have hlocks := B.notSynchronized
  subst hsz
  have hD := hD0.self (sz := s.heap.size)
  unfold rw_Qi
  generalize hAe : va_A (wM am cm P G X) s.heap.size = A at hD ⊢
  have hA : ∀ q : Nat, s.heap.size ≤ q → A q := fun q h => by rw [← hAe]; exact Or.inr h
  have hS : va_S A s.heap s.heap [] := va_S.rf
  have hl := lv_entry ([.ref (am 0), .int (nI p1), .int (nI d), .int (nI sf), .int (nI b), .int (nI wt)]) (n := 7) (Nat.le_of_ble_eq_true rfl)
  rw [lg_entry_eq]
  generalize (lg_sl ([.ref (am 0), .int (nI p1), .int (nI d), .int (nI sf), .int (nI b), .int (nI wt)]) ++ List.replicate (7 - (lg_sl ([.ref (am 0), .int (nI p1), .int (nI d), .int (nI sf), .int (nI b), .int (nI wt)])).length) Slot.unset).toArray = ls at hl ⊢
  have hl : lv_has ls 7 [(0, .ref (am 0)), (1, .int (nI p1)), (2, .int (nI d)), (3, .int (nI sf)), (4, .int (nI b)), (5, .int (nI wt))] := hl
  refine nr_start hP hS (fun H locs hP hS => ?_)
  obtain ⟨h00, h01, h02, h03, h04, h05, hp1, hp2, hp3, hp4, hp5, hp6⟩ := id hP0
  obtain ⟨k00, k01, hg1, hg2⟩ := id hG0
  obtain ⟨x00, x01, x02, x03, hx1, hx2, hx3, hx4, hx5, hx6, hx7⟩ := id hX0
  refine lv_aload_n hx hb d_M_wish_0 rfl (lv_at hl 0 rfl) ?_
  refine lv_iload_n hx hb d_M_wish_1 rfl (lv_at hl 1 rfl) ?_
  refine nr_calli (va_runV (As := [.int (nI p1)]) (rest := []) ⟨hx, hb, hml, hown, hts⟩ (c_M_isPerson l D am cm P G X (am 3) (cm 2) (G 1) hP0 hG0 hX0 hg1 (nI p1)) ⟨callB_of 1 hts (gTB q_M_isPerson) rfl rfl rfl (htb _ q4) (htb _ q693) hd_M_isPerson ⟨Nat.le_of_ble_eq_true rfl, Nat.le_of_ble_eq_true rfl⟩, (htb _ q695), (htb _ sel_M_isPerson)⟩ ⟨ro_blind, va_recv (hK.sub (tys' := []) [] rfl) hP (ci := 3) (q0 := 0) rfl rfl, ro_pre hN (hP.sub (ws' := (wMS am cm P G X (am 3) (cm 2) (G 1))) [0, 1, 2, 3, 4, 5, 6, 7, 8, 9, 10, 11, 12, 13, 14, 3] rfl) (hK.sub (tys' := (tMS cm (cm 2))) [0, 1, 2, 3, 4, 5, 6, 7, 8, 9, 10, 11, 12, 13, 2] rfl)⟩ rfl rfl hl.1 rfl (lv_room (Nat.le_of_ble_eq_true rfl)) d_M_wish_2 ⟨Nat.le_of_ble_eq_true rfl, Nat.le_of_ble_eq_true rfl⟩) (fun r_1 hr_1 => ?_)
  subst hr_1
  refine nr_top (y := nI 1) (by rw [inR_n h_p1 (by omega)]; rfl) ?_
  refine nr_if_eq (tgt := 25) hx hb (by omega) d_M_wish_5 (by decide) (fun c_5 => by exfalso; omega) (fun c_5 => ?_)
  refine lv_aload_n hx hb d_M_wish_8 rfl (lv_at hl 0 rfl) ?_
  refine lv_iload_n hx hb d_M_wish_9 rfl (lv_at hl 2 rfl) ?_
  refine nr_calli (va_runV (As := [.int (nI d)]) (rest := []) ⟨hx, hb, hml, hown, hts⟩ (c_M_isDay l D am cm P G X (am 3) (cm 2) (G 1) hP0 hG0 hX0 hg1 (nI d)) ⟨callB_of 1 hts (gTB q_M_isDay) rfl rfl rfl (htb _ q4) (htb _ q681) hd_M_isDay ⟨Nat.le_of_ble_eq_true rfl, Nat.le_of_ble_eq_true rfl⟩, (htb _ q683), (htb _ sel_M_isDay)⟩ ⟨ro_blind, va_recv (hK.sub (tys' := []) [] rfl) hP (ci := 3) (q0 := 0) rfl rfl, ro_pre hN (hP.sub (ws' := (wMS am cm P G X (am 3) (cm 2) (G 1))) [0, 1, 2, 3, 4, 5, 6, 7, 8, 9, 10, 11, 12, 13, 14, 3] rfl) (hK.sub (tys' := (tMS cm (cm 2))) [0, 1, 2, 3, 4, 5, 6, 7, 8, 9, 10, 11, 12, 13, 2] rfl)⟩ rfl rfl hl.1 rfl (lv_room (Nat.le_of_ble_eq_true rfl)) d_M_wish_10 ⟨Nat.le_of_ble_eq_true rfl, Nat.le_of_ble_eq_true rfl⟩) (fun r_2 hr_2 => ?_)
  subst hr_2
  refine nr_top (y := nI 1) (by rw [inR_n h_d (by omega)]; rfl) ?_
  refine nr_if_eq (tgt := 25) hx hb (by omega) d_M_wish_13 (by decide) (fun c_13 => by exfalso; omega) (fun c_13 => ?_)
  refine lv_iload_n hx hb d_M_wish_16 rfl (lv_at hl 3 rfl) ?_
  refine nr_iconst hx hb 0 d_M_wish_17 (by decide) ?_
  refine nr_iconst hx hb 3 d_M_wish_18 (by decide) ?_
  refine nr_calli (va_runS (As := [.int (nI sf), .int (nI 0), .int (nI 3)]) (rest := []) ⟨hx, hb, hml, hown, hts⟩ (c_M_in l D (nI sf) (nI 0) (nI 3)) ⟨callB_of 3 hts (gTB q_M_in) rfl rfl rfl (htb _ q4) (htb _ q666) hd_M_in ⟨Nat.le_of_ble_eq_true rfl, Nat.le_of_ble_eq_true rfl⟩, (htb _ q667)⟩ ⟨ro_blind, ro_pre hN (hP.sub (ws' := []) [] rfl) (hK.sub (tys' := []) [] rfl)⟩ rfl rfl hl.1 rfl (lv_room (Nat.le_of_ble_eq_true rfl)) d_M_wish_19 ⟨Nat.le_of_ble_eq_true rfl, Nat.le_of_ble_eq_true rfl⟩) (fun r_3 hr_3 => ?_)
  subst hr_3
  refine nr_top (y := nI 1) (by rw [in_n (h_sf).1 (h_sf).2 (by omega)]; rfl) ?_
  refine nr_if_ne (tgt := 29) hx hb (by omega) d_M_wish_22 (by decide) (fun c_22 => ?_) (fun c_22 => by exfalso; omega)
  refine nr_iconst hx hb 0 d_M_wish_29 (by decide) ?_
  refine lv_istore (lv' := [(6, .int (nI 0)), (0, .ref (am 0)), (1, .int (nI p1)), (2, .int (nI d)), (3, .int (nI sf)), (4, .int (nI b)), (5, .int (nI wt))]) hx hb d_M_wish_30 hl (by decide) rfl (fun ls hl => ?_)
  refine lv_aload_n hx hb d_M_wish_32 rfl (lv_at hl 1 rfl) ?_
  refine lv_iload hx hb d_M_wish_33 (lv_at hl 0 rfl) ?_
  refine lv_iload hx hb d_M_wish_35 (lv_at hl 6 rfl) ?_
  refine nr_iconst hx hb 1 d_M_wish_37 (by decide) ?_
  refine nr_bipush hx hb 100 d_M_wish_38 (by decide) ?_
  refine nr_calli (va_runS (As := [.int (nI wt), .int (nI 1), .int (nI 100)]) (rest := [.int (nI 0), .ref (am 0)]) ⟨hx, hb, hml, hown, hts⟩ (c_M_in l D (nI wt) (nI 1) (nI 100)) ⟨callB_of 3 hts (gTB q_M_in) rfl rfl rfl (htb _ q4) (htb _ q666) hd_M_in ⟨Nat.le_of_ble_eq_true rfl, Nat.le_of_ble_eq_true rfl⟩, (htb _ q667)⟩ ⟨ro_blind, ro_pre hN (hP.sub (ws' := []) [] rfl) (hK.sub (tys' := []) [] rfl)⟩ rfl rfl hl.1 rfl (lv_room (Nat.le_of_ble_eq_true rfl)) d_M_wish_40 ⟨Nat.le_of_ble_eq_true rfl, Nat.le_of_ble_eq_true rfl⟩) (fun r_4 hr_4 => ?_)
  subst hr_4
  refine nr_top (y := nI 1) (by rw [in_n (h_wt).1 (h_wt).2 (by omega)]; rfl) ?_
  refine nr_if_ne (tgt := 50) hx hb (by omega) d_M_wish_43 (by decide) (fun c_43 => ?_) (fun c_43 => by exfalso; omega)
  refine nr_iconst hx hb 0 d_M_wish_50 (by decide) ?_
  refine lv_iload hx hb d_M_wish_51 (lv_at hl 0 rfl) ?_
  refine nr_if_ne (tgt := 68) hx hb (by omega) d_M_wish_53 (by decide) (fun c_53 => by exfalso; omega) (fun c_53 => ?_)
  refine lv_iload_n hx hb d_M_wish_56 rfl (lv_at hl 3 rfl) ?_
  refine lv_aload_n hx hb d_M_wish_57 rfl (lv_at hl 1 rfl) ?_
  refine va_get (D := D) (ci := 3) (v := .int (nI (G 0 0))) (C := R_M) (T := F_M) (N := 26) hx hb htb u_M hown hK hP 0 rfl rfl 3 (by decide) (htb _ q582) (fun _ h9 => h9) rfl d_M_wish_58 ?_
  refine nr_icmp_ge (tgt := 68) hx hb (by omega) (by omega) d_M_wish_61 (by decide) (fun c_61 => ?_) (fun c_61 => by exfalso; omega)
  refine nr_iconst hx hb 0 d_M_wish_68 (by decide) ?_
  refine lv_aload_n hx hb d_M_wish_69 rfl (lv_at hl 1 rfl) ?_
  refine va_get (D := D) (ci := 3) (v := .int (nI (P 0 5))) (C := R_M) (T := F_M) (N := 26) hx hb htb u_M hown hK hP 0 rfl rfl 17 (by decide) (htb _ q596) (fun _ h9 => h9) rfl d_M_wish_70 ?_
  refine nr_bipush hx hb 20 d_M_wish_73 (by decide) ?_
  refine nr_icmp_ne (tgt := 82) hx hb (by omega) (by omega) d_M_wish_75 (by decide) (fun c_75 => by exfalso; omega) (fun c_75 => ?_)
  refine nr_iconst hx hb 1 d_M_wish_78 (by decide) ?_
  refine lv_goto (tgt := 83) hx hb d_M_wish_79 (by decide) ?_
  refine nr_callwi (wr := ([] : va_W)) (va_runV (As := [.int (nI 0), .int (nI 0), .int (nI 0), .int (nI 1)]) (rest := []) ⟨hx, hb, hml, hown, hts⟩ (c_M_throwing l D am cm P G X 0 0 0 1 (by decide) (by decide) (by decide) (by decide) H.size) ⟨callB_of 4 hts (gTB q_M_throwing) rfl rfl rfl (htb _ q4) (htb _ q669) hd_M_throwing ⟨Nat.le_of_ble_eq_true rfl, Nat.le_of_ble_eq_true rfl⟩, (htb _ q671), (htb _ sel_M_throwing)⟩ ⟨rw_blind, va_recv (hK.sub (tys' := []) [] rfl) hP (ci := 3) (q0 := 0) rfl rfl, rw_pre hN (hP.sub (ws' := (wM am cm P G X)) [0, 1, 2, 3, 4, 5, 6, 7, 8, 9, 10, 11, 12, 13, 14] rfl) (hK.sub (tys' := (tM cm)) [0, 1, 2, 3, 4, 5, 6, 7, 8, 9, 10, 11, 12, 13] rfl) (hD.sub (ws' := (wM am cm P G X)) [0, 1, 2, 3, 4, 5, 6, 7, 8, 9, 10, 11, 12, 13, 14] (by decide) rfl)⟩ rfl rfl hl.1 rfl (lv_room (Nat.le_of_ble_eq_true rfl)) d_M_wish_83 ⟨Nat.le_of_ble_eq_true rfl, Nat.le_of_ble_eq_true rfl⟩) hP hD hS hA [0, 1, 2, 3, 4, 5, 6, 7, 8, 9, 10, 11, 12, 13, 14] [] rfl rfl (by decide) (by decide) (fun r_5 u_5 H locs hr_5 hP hD hS => ?_)
  subst hr_5
  replace hP := hP.sub (ws' := wM am cm P G (up2 X 0 0 4)) [0, 1, 2, 3, 4, 5, 6, 7, 8, 9, 10, 11, 12, 13, 14] rfl
  replace hD := hD.sub (ws' := wM am cm P G (up2 X 0 0 4)) [0, 1, 2, 3, 4, 5, 6, 7, 8, 9, 10, 11, 12, 13, 14] (by decide) rfl
  refine nr_top (y := nI 1) rfl ?_
  refine nr_if_eq (tgt := 91) hx hb (by omega) d_M_wish_86 (by decide) (fun c_86 => by exfalso; omega) (fun c_86 => ?_)
  refine nr_iconst hx hb 0 d_M_wish_89 (by decide) ?_
  exact W.iret (v := (nI 0)) hx hb hr (fun t ht hW => ⟨⟨_, (), rfl, rfl, by rw [ht]; exact hP, hD⟩, hS.F ht⟩) hS.2.2 d_M_wish_90
set_option maxHeartbeats 4000000 in
set_option maxRecDepth 100000 in
theorem j_M_set_1a (l : Launch) (D : va_G) (am : Nat → Nat) (cm : Nat → ClassId) (P G X : Nat → Nat → Nat) (hP0 : okP P) (hG0 : okG G) (hX0 : okX X) (p1 d sf : Int32) (hbad : inR p1 (P 0 0) = false) (sz : Nat) : Met l y_M_set w_M_set { frames := 2, cells := 0, slots := 0, locals := 43 } (rw_P [.ref (am 0), .int p1, .int d, .int sf] D (wM am cm P G X) (tM cm) sz) (rw_Qv (fun u : Unit => True) D (wM am cm P G X) (fun u => wM am cm P G (up2 X 0 0 1)) sz) 0 0 (va_A (wM am cm P G X) sz) := by
  refine Met.ofW (cc := b_M_set) (maxL := 5) (ret := none) (by decide) rfl ?_
  intro p e s m args below meth c s₁ B hml hv
  obtain ⟨rfl, hsz, hN, hP, hK, hD0⟩ := hv
  have hx := B.exec
  have hb := B.bytes
  have hr := B.returns
  have hts := atoms_spec (ws := w_M_set) B.pre
  have htb : ∀ w ∈ TBG, w.before [.ref (am 0), .int p1, .int d, .int sf].toArray s = true := fun w h => hts w (List.mem_cons_of_mem _ h)
  have hown : s.vm.findClass R_M = some m.cls := findClass_of_methodNamed B.named
  have hlocks := B.notSynchronized
  subst hsz
  have hD := hD0.self (sz := s.heap.size)
  unfold rw_Qv
  generalize hAe : va_A (wM am cm P G X) s.heap.size = A at hD ⊢
  have hA : ∀ q : Nat, s.heap.size ≤ q → A q := fun q h => by rw [← hAe]; exact Or.inr h
  have hS : va_S A s.heap s.heap [] := va_S.rf
  have hl := lv_entry ([.ref (am 0), .int p1, .int d, .int sf]) (n := 5) (Nat.le_of_ble_eq_true rfl)
  rw [lg_entry_eq]
  generalize (lg_sl ([.ref (am 0), .int p1, .int d, .int sf]) ++ List.replicate (5 - (lg_sl ([.ref (am 0), .int p1, .int d, .int sf])).length) Slot.unset).toArray = ls at hl ⊢
  have hl : lv_has ls 5 [(0, .ref (am 0)), (1, .int p1), (2, .int d), (3, .int sf)] := hl
  refine nr_start hP hS (fun H locs hP hS => ?_)
  obtain ⟨h00, h01, h02, h03, h04, h05, hp1, hp2, hp3, hp4, hp5, hp6⟩ := id hP0
  obtain ⟨k00, k01, hg1, hg2⟩ := id hG0
  obtain ⟨x00, x01, x02, x03, hx1, hx2, hx3, hx4, hx5, hx6, hx7⟩ := id hX0
  refine lv_aload_n hx hb d_M_set_0 rfl (lv_at hl 0 rfl) ?_
  refine lv_iload_n hx hb d_M_set_1 rfl (lv_at hl 1 rfl) ?_
  refine nr_calli (va_runV (As := [.int p1]) (rest := []) ⟨hx, hb, hml, hown, hts⟩ (c_M_isPerson l D am cm P G X (am 3) (cm 2) (G 1) hP0 hG0 hX0 hg1 p1) ⟨callB_of 1 hts (gTB q_M_isPerson) rfl rfl rfl (htb _ q4) (htb _ q693) hd_M_isPerson ⟨Nat.le_of_ble_eq_true rfl, Nat.le_of_ble_eq_true rfl⟩, (htb _ q695), (htb _ sel_M_isPerson)⟩ ⟨ro_blind, va_recv (hK.sub (tys' := []) [] rfl) hP (ci := 3) (q0 := 0) rfl rfl, ro_pre hN (hP.sub (ws' := (wMS am cm P G X (am 3) (cm 2) (G 1))) [0, 1, 2, 3, 4, 5, 6, 7, 8, 9, 10, 11, 12, 13, 14, 3] rfl) (hK.sub (tys' := (tMS cm (cm 2))) [0, 1, 2, 3, 4, 5, 6, 7, 8, 9, 10, 11, 12, 13, 2] rfl)⟩ rfl rfl hl.1 rfl (lv_room (Nat.le_of_ble_eq_true rfl)) d_M_set_2 ⟨Nat.le_of_ble_eq_true rfl, Nat.le_of_ble_eq_true rfl⟩) (fun r_1 hr_1 => ?_)
  subst hr_1
  refine nr_top (y := nI 0) (by rw [hbad]; rfl) ?_
  refine nr_if_eq (tgt := 25) hx hb (by omega) d_M_set_5 (by decide) (fun c_5 => ?_) (fun c_5 => by exfalso; omega)
  refine nr_iconst hx hb 1 d_M_set_25 (by decide) ?_
  refine lv_goto (tgt := 30) hx hb d_M_set_26 (by decide) ?_
  refine lv_istore (lv' := [(4, .int (nI 1)), (0, .ref (am 0)), (1, .int p1), (2, .int d), (3, .int sf)]) hx hb d_M_set_30 hl (by decide) rfl (fun ls hl => ?_)
  refine lv_aload_n hx hb d_M_set_32 rfl (lv_at hl 1 rfl) ?_
  refine lv_iload hx hb d_M_set_33 (lv_at hl 0 rfl) ?_
  refine lv_iload hx hb d_M_set_35 (lv_at hl 0 rfl) ?_
  refine nr_if_ne (tgt := 52) hx hb (by omega) d_M_set_37 (by decide) (fun c_37 => ?_) (fun c_37 => by exfalso; omega)
  refine nr_iconst hx hb 0 d_M_set_52 (by decide) ?_
  refine nr_iconst hx hb 0 d_M_set_53 (by decide) ?_
  refine nr_iconst hx hb 0 d_M_set_54 (by decide) ?_
  refine nr_callwi (wr := ([] : va_W)) (va_runV (As := [.int (nI 1), .int (nI 0), .int (nI 0), .int (nI 0)]) (rest := []) ⟨hx, hb, hml, hown, hts⟩ (c_M_throwing l D am cm P G X 1 0 0 0 (by decide) (by decide) (by decide) (by decide) H.size) ⟨callB_of 4 hts (gTB q_M_throwing) rfl rfl rfl (htb _ q4) (htb _ q669) hd_M_throwing ⟨Nat.le_of_ble_eq_true rfl, Nat.le_of_ble_eq_true rfl⟩, (htb _ q671), (htb _ sel_M_throwing)⟩ ⟨rw_blind, va_recv (hK.sub (tys' := []) [] rfl) hP (ci := 3) (q0 := 0) rfl rfl, rw_pre hN (hP.sub (ws' := (wM am cm P G X)) [0, 1, 2, 3, 4, 5, 6, 7, 8, 9, 10, 11, 12, 13, 14] rfl) (hK.sub (tys' := (tM cm)) [0, 1, 2, 3, 4, 5, 6, 7, 8, 9, 10, 11, 12, 13] rfl) (hD.sub (ws' := (wM am cm P G X)) [0, 1, 2, 3, 4, 5, 6, 7, 8, 9, 10, 11, 12, 13, 14] (by decide) rfl)⟩ rfl rfl hl.1 rfl (lv_room (Nat.le_of_ble_eq_true rfl)) d_M_set_55 ⟨Nat.le_of_ble_eq_true rfl, Nat.le_of_ble_eq_true rfl⟩) hP hD hS hA [0, 1, 2, 3, 4, 5, 6, 7, 8, 9, 10, 11, 12, 13, 14] [] rfl rfl (by decide) (by decide) (fun r_2 u_2 H locs hr_2 hP hD hS => ?_)
  subst hr_2
  replace hP := hP.sub (ws' := wM am cm P G (up2 X 0 0 1)) [0, 1, 2, 3, 4, 5, 6, 7, 8, 9, 10, 11, 12, 13, 14] rfl
  replace hD := hD.sub (ws' := wM am cm P G (up2 X 0 0 1)) [0, 1, 2, 3, 4, 5, 6, 7, 8, 9, 10, 11, 12, 13, 14] (by decide) rfl
  refine nr_top (y := nI 1) rfl ?_
  refine nr_if_eq (tgt := 62) hx hb (by omega) d_M_set_58 (by decide) (fun c_58 => by exfalso; omega) (fun c_58 => ?_)
  exact W.vret hx hb hr (fun t ht hW => ⟨⟨(), rfl, trivial, by rw [ht]; exact hP, hD⟩, hS.F ht⟩) hS.2.2 d_M_set_61
set_option maxHeartbeats 4000000 in
set_option maxRecDepth 100000 in
theorem j_M_set_1b (l : Launch) (D : va_G) (am : Nat → Nat) (cm : Nat → ClassId) (P G X : Nat → Nat → Nat) (hP0 : okP P) (hG0 : okG G) (hX0 : okX X) (p1 : Nat) (d sf : Int32) (h_p1 : (p1 < P 0 0)) (hbad : inR d (P 0 1) = false) (sz : Nat) : Met l y_M_set w_M_set { frames := 2, cells := 0, slots := 0, locals := 43 } (rw_P [.ref (am 0), .int (nI p1), .int d, .int sf] D (wM am cm P G X) (tM cm) sz) (rw_Qv (fun u : Unit => True) D (wM am cm P G X) (fun u => wM am cm P G (up2 X 0 0 1)) sz) 0 0 (va_A (wM am cm P G X) sz) := by
  refine Met.ofW (cc := b_M_set) (maxL := 5) (ret := none) (by decide) rfl ?_
  intro p e s m args below meth c s₁ B hml hv
  obtain ⟨rfl, hsz, hN, hP, hK, hD0⟩ := hv
  have hx := B.exec
  have hb := B.bytes
  have hr := B.returns
  have hts := atoms_spec (ws := w_M_set) B.pre
  have htb : ∀ w ∈ TBG, w.before [.ref (am 0), .int (nI p1), .int d, .int sf].toArray s = true := fun w h => hts w (List.mem_cons_of_mem _ h)
  have hown : s.vm.findClass R_M = some m.cls := findClass_of_methodNamed B.named
  have hlocks := B.notSynchronized
  subst hsz
  have hD := hD0.self (sz := s.heap.size)
  unfold rw_Qv
  generalize hAe : va_A (wM am cm P G X) s.heap.size = A at hD ⊢
  have hA : ∀ q : Nat, s.heap.size ≤ q → A q := fun q h => by rw [← hAe]; exact Or.inr h
  have hS : va_S A s.heap s.heap [] := va_S.rf
  have hl := lv_entry ([.ref (am 0), .int (nI p1), .int d, .int sf]) (n := 5) (Nat.le_of_ble_eq_true rfl)
  rw [lg_entry_eq]
  generalize (lg_sl ([.ref (am 0), .int (nI p1), .int d, .int sf]) ++ List.replicate (5 - (lg_sl ([.ref (am 0), .int (nI p1), .int d, .int sf])).length) Slot.unset).toArray = ls at hl ⊢
  have hl : lv_has ls 5 [(0, .ref (am 0)), (1, .int (nI p1)), (2, .int d), (3, .int sf)] := hl
  refine nr_start hP hS (fun H locs hP hS => ?_)
  obtain ⟨h00, h01, h02, h03, h04, h05, hp1, hp2, hp3, hp4, hp5, hp6⟩ := id hP0
  obtain ⟨k00, k01, hg1, hg2⟩ := id hG0
  obtain ⟨x00, x01, x02, x03, hx1, hx2, hx3, hx4, hx5, hx6, hx7⟩ := id hX0
  refine lv_aload_n hx hb d_M_set_0 rfl (lv_at hl 0 rfl) ?_
  refine lv_iload_n hx hb d_M_set_1 rfl (lv_at hl 1 rfl) ?_
  refine nr_calli (va_runV (As := [.int (nI p1)]) (rest := []) ⟨hx, hb, hml, hown, hts⟩ (c_M_isPerson l D am cm P G X (am 3) (cm 2) (G 1) hP0 hG0 hX0 hg1 (nI p1)) ⟨callB_of 1 hts (gTB q_M_isPerson) rfl rfl rfl (htb _ q4) (htb _ q693) hd_M_isPerson ⟨Nat.le_of_ble_eq_true rfl, Nat.le_of_ble_eq_true rfl⟩, (htb _ q695), (htb _ sel_M_isPerson)⟩ ⟨ro_blind, va_recv (hK.sub (tys' := []) [] rfl) hP (ci := 3) (q0 := 0) rfl rfl, ro_pre hN (hP.sub (ws' := (wMS am cm P G X (am 3) (cm 2) (G 1))) [0, 1, 2, 3, 4, 5, 6, 7, 8, 9, 10, 11, 12, 13, 14, 3] rfl) (hK.sub (tys' := (tMS cm (cm 2))) [0, 1, 2, 3, 4, 5, 6, 7, 8, 9, 10, 11, 12, 13, 2] rfl)⟩ rfl rfl hl.1 rfl (lv_room (Nat.le_of_ble_eq_true rfl)) d_M_set_2 ⟨Nat.le_of_ble_eq_true rfl, Nat.le_of_ble_eq_true rfl⟩) (fun r_1 hr_1 => ?_)
  subst hr_1
  refine nr_top (y := nI 1) (by rw [inR_n h_p1 (by omega)]; rfl) ?_
  refine nr_if_eq (tgt := 25) hx hb (by omega) d_M_set_5 (by decide) (fun c_5 => by exfalso; omega) (fun c_5 => ?_)
  refine lv_aload_n hx hb d_M_set_8 rfl (lv_at hl 0 rfl) ?_
  refine lv_iload_n hx hb d_M_set_9 rfl (lv_at hl 2 rfl) ?_
  refine nr_calli (va_runV (As := [.int d]) (rest := []) ⟨hx, hb, hml, hown, hts⟩ (c_M_isDay l D am cm P G X (am 3) (cm 2) (G 1) hP0 hG0 hX0 hg1 d) ⟨callB_of 1 hts (gTB q_M_isDay) rfl rfl rfl (htb _ q4) (htb _ q681) hd_M_isDay ⟨Nat.le_of_ble_eq_true rfl, Nat.le_of_ble_eq_true rfl⟩, (htb _ q683), (htb _ sel_M_isDay)⟩ ⟨ro_blind, va_recv (hK.sub (tys' := []) [] rfl) hP (ci := 3) (q0 := 0) rfl rfl, ro_pre hN (hP.sub (ws' := (wMS am cm P G X (am 3) (cm 2) (G 1))) [0, 1, 2, 3, 4, 5, 6, 7, 8, 9, 10, 11, 12, 13, 14, 3] rfl) (hK.sub (tys' := (tMS cm (cm 2))) [0, 1, 2, 3, 4, 5, 6, 7, 8, 9, 10, 11, 12, 13, 2] rfl)⟩ rfl rfl hl.1 rfl (lv_room (Nat.le_of_ble_eq_true rfl)) d_M_set_10 ⟨Nat.le_of_ble_eq_true rfl, Nat.le_of_ble_eq_true rfl⟩) (fun r_2 hr_2 => ?_)
  subst hr_2
  refine nr_top (y := nI 0) (by rw [hbad]; rfl) ?_
  refine nr_if_eq (tgt := 25) hx hb (by omega) d_M_set_13 (by decide) (fun c_13 => ?_) (fun c_13 => by exfalso; omega)
  refine nr_iconst hx hb 1 d_M_set_25 (by decide) ?_
  refine lv_goto (tgt := 30) hx hb d_M_set_26 (by decide) ?_
  refine lv_istore (lv' := [(4, .int (nI 1)), (0, .ref (am 0)), (1, .int (nI p1)), (2, .int d), (3, .int sf)]) hx hb d_M_set_30 hl (by decide) rfl (fun ls hl => ?_)
  refine lv_aload_n hx hb d_M_set_32 rfl (lv_at hl 1 rfl) ?_
  refine lv_iload hx hb d_M_set_33 (lv_at hl 0 rfl) ?_
  refine lv_iload hx hb d_M_set_35 (lv_at hl 0 rfl) ?_
  refine nr_if_ne (tgt := 52) hx hb (by omega) d_M_set_37 (by decide) (fun c_37 => ?_) (fun c_37 => by exfalso; omega)
  refine nr_iconst hx hb 0 d_M_set_52 (by decide) ?_
  refine nr_iconst hx hb 0 d_M_set_53 (by decide) ?_
  refine nr_iconst hx hb 0 d_M_set_54 (by decide) ?_
  refine nr_callwi (wr := ([] : va_W)) (va_runV (As := [.int (nI 1), .int (nI 0), .int (nI 0), .int (nI 0)]) (rest := []) ⟨hx, hb, hml, hown, hts⟩ (c_M_throwing l D am cm P G X 1 0 0 0 (by decide) (by decide) (by decide) (by decide) H.size) ⟨callB_of 4 hts (gTB q_M_throwing) rfl rfl rfl (htb _ q4) (htb _ q669) hd_M_throwing ⟨Nat.le_of_ble_eq_true rfl, Nat.le_of_ble_eq_true rfl⟩, (htb _ q671), (htb _ sel_M_throwing)⟩ ⟨rw_blind, va_recv (hK.sub (tys' := []) [] rfl) hP (ci := 3) (q0 := 0) rfl rfl, rw_pre hN (hP.sub (ws' := (wM am cm P G X)) [0, 1, 2, 3, 4, 5, 6, 7, 8, 9, 10, 11, 12, 13, 14] rfl) (hK.sub (tys' := (tM cm)) [0, 1, 2, 3, 4, 5, 6, 7, 8, 9, 10, 11, 12, 13] rfl) (hD.sub (ws' := (wM am cm P G X)) [0, 1, 2, 3, 4, 5, 6, 7, 8, 9, 10, 11, 12, 13, 14] (by decide) rfl)⟩ rfl rfl hl.1 rfl (lv_room (Nat.le_of_ble_eq_true rfl)) d_M_set_55 ⟨Nat.le_of_ble_eq_true rfl, Nat.le_of_ble_eq_true rfl⟩) hP hD hS hA [0, 1, 2, 3, 4, 5, 6, 7, 8, 9, 10, 11, 12, 13, 14] [] rfl rfl (by decide) (by decide) (fun r_3 u_3 H locs hr_3 hP hD hS => ?_)
  subst hr_3
  replace hP := hP.sub (ws' := wM am cm P G (up2 X 0 0 1)) [0, 1, 2, 3, 4, 5, 6, 7, 8, 9, 10, 11, 12, 13, 14] rfl
  replace hD := hD.sub (ws' := wM am cm P G (up2 X 0 0 1)) [0, 1, 2, 3, 4, 5, 6, 7, 8, 9, 10, 11, 12, 13, 14] (by decide) rfl
  refine nr_top (y := nI 1) rfl ?_
  refine nr_if_eq (tgt := 62) hx hb (by omega) d_M_set_58 (by decide) (fun c_58 => by exfalso; omega) (fun c_58 => ?_)
  exact W.vret hx hb hr (fun t ht hW => ⟨⟨(), rfl, trivial, by rw [ht]; exact hP, hD⟩, hS.F ht⟩) hS.2.2 d_M_set_61
set_option maxHeartbeats 4000000 in
set_option maxRecDepth 100000 in
theorem j_M_set_1c (l : Launch) (D : va_G) (am : Nat → Nat) (cm : Nat → ClassId) (P G X : Nat → Nat → Nat) (hP0 : okP P) (hG0 : okG G) (hX0 : okX X) (p1 d : Nat) (sf : Int32) (h_p1 : (p1 < P 0 0)) (h_d : (d < P 0 1)) (hbad : decide (nI 0 ≤ sf ∧ sf ≤ nI 3) = false) (sz : Nat) : Met l y_M_set w_M_set { frames := 2, cells := 0, slots := 0, locals := 43 } (rw_P [.ref (am 0), .int (nI p1), .int (nI d), .int sf] D (wM am cm P G X) (tM cm) sz) (rw_Qv (fun u : Unit => True) D (wM am cm P G X) (fun u => wM am cm P G (up2 X 0 0 1)) sz) 0 0 (va_A (wM am cm P G X) sz) := by
  refine Met.ofW (cc := b_M_set) (maxL := 5) (ret := none) (by decide) rfl ?_
  intro p e s m args below meth c s₁ B hml hv
  obtain ⟨rfl, hsz, hN, hP, hK, hD0⟩ := hv
  have hx := B.exec
  have hb := B.bytes
  have hr := B.returns
  have hts := atoms_spec (ws := w_M_set) B.pre
  have htb : ∀ w ∈ TBG, w.before [.ref (am 0), .int (nI p1), .int (nI d), .int sf].toArray s = true := fun w h => hts w (List.mem_cons_of_mem _ h)
  have hown : s.vm.findClass R_M = some m.cls := findClass_of_methodNamed B.named
  have hlocks := B.notSynchronized
  subst hsz
  have hD := hD0.self (sz := s.heap.size)
  unfold rw_Qv
  generalize hAe : va_A (wM am cm P G X) s.heap.size = A at hD ⊢
  have hA : ∀ q : Nat, s.heap.size ≤ q → A q := fun q h => by rw [← hAe]; exact Or.inr h
  have hS : va_S A s.heap s.heap [] := va_S.rf
  have hl := lv_entry ([.ref (am 0), .int (nI p1), .int (nI d), .int sf]) (n := 5) (Nat.le_of_ble_eq_true rfl)
  rw [lg_entry_eq]
  generalize (lg_sl ([.ref (am 0), .int (nI p1), .int (nI d), .int sf]) ++ List.replicate (5 - (lg_sl ([.ref (am 0), .int (nI p1), .int (nI d), .int sf])).length) Slot.unset).toArray = ls at hl ⊢
  have hl : lv_has ls 5 [(0, .ref (am 0)), (1, .int (nI p1)), (2, .int (nI d)), (3, .int sf)] := hl
  refine nr_start hP hS (fun H locs hP hS => ?_)
  obtain ⟨h00, h01, h02, h03, h04, h05, hp1, hp2, hp3, hp4, hp5, hp6⟩ := id hP0
  obtain ⟨k00, k01, hg1, hg2⟩ := id hG0
  obtain ⟨x00, x01, x02, x03, hx1, hx2, hx3, hx4, hx5, hx6, hx7⟩ := id hX0
  refine lv_aload_n hx hb d_M_set_0 rfl (lv_at hl 0 rfl) ?_
  refine lv_iload_n hx hb d_M_set_1 rfl (lv_at hl 1 rfl) ?_
  refine nr_calli (va_runV (As := [.int (nI p1)]) (rest := []) ⟨hx, hb, hml, hown, hts⟩ (c_M_isPerson l D am cm P G X (am 3) (cm 2) (G 1) hP0 hG0 hX0 hg1 (nI p1)) ⟨callB_of 1 hts (gTB q_M_isPerson) rfl rfl rfl (htb _ q4) (htb _ q693) hd_M_isPerson ⟨Nat.le_of_ble_eq_true rfl, Nat.le_of_ble_eq_true rfl⟩, (htb _ q695), (htb _ sel_M_isPerson)⟩ ⟨ro_blind, va_recv (hK.sub (tys' := []) [] rfl) hP (ci := 3) (q0 := 0) rfl rfl, ro_pre hN (hP.sub (ws' := (wMS am cm P G X (am 3) (cm 2) (G 1))) [0, 1, 2, 3, 4, 5, 6, 7, 8, 9, 10, 11, 12, 13, 14, 3] rfl) (hK.sub (tys' := (tMS cm (cm 2))) [0, 1, 2, 3, 4, 5, 6, 7, 8, 9, 10, 11, 12, 13, 2] rfl)⟩ rfl rfl hl.1 rfl (lv_room (Nat.le_of_ble_eq_true rfl)) d_M_set_2 ⟨Nat.le_of_ble_eq_true rfl, Nat.le_of_ble_eq_true rfl⟩) (fun r_1 hr_1 => ?_)
  subst hr_1
  refine nr_top (y := nI 1) (by rw [inR_n h_p1 (by omega)]; rfl) ?_
  refine nr_if_eq (tgt := 25) hx hb (by omega) d_M_set_5 (by decide) (fun c_5 => by exfalso; omega) (fun c_5 => ?_)
  refine lv_aload_n hx hb d_M_set_8 rfl (lv_at hl 0 rfl) ?_
  refine lv_iload_n hx hb d_M_set_9 rfl (lv_at hl 2 rfl) ?_
  refine nr_calli (va_runV (As := [.int (nI d)]) (rest := []) ⟨hx, hb, hml, hown, hts⟩ (c_M_isDay l D am cm P G X (am 3) (cm 2) (G 1) hP0 hG0 hX0 hg1 (nI d)) ⟨callB_of 1 hts (gTB q_M_isDay) rfl rfl rfl (htb _ q4) (htb _ q681) hd_M_isDay ⟨Nat.le_of_ble_eq_true rfl, Nat.le_of_ble_eq_true rfl⟩, (htb _ q683), (htb _ sel_M_isDay)⟩ ⟨ro_blind, va_recv (hK.sub (tys' := []) [] rfl) hP (ci := 3) (q0 := 0) rfl rfl, ro_pre hN (hP.sub (ws' := (wMS am cm P G X (am 3) (cm 2) (G 1))) [0, 1, 2, 3, 4, 5, 6, 7, 8, 9, 10, 11, 12, 13, 14, 3] rfl) (hK.sub (tys' := (tMS cm (cm 2))) [0, 1, 2, 3, 4, 5, 6, 7, 8, 9, 10, 11, 12, 13, 2] rfl)⟩ rfl rfl hl.1 rfl (lv_room (Nat.le_of_ble_eq_true rfl)) d_M_set_10 ⟨Nat.le_of_ble_eq_true rfl, Nat.le_of_ble_eq_true rfl⟩) (fun r_2 hr_2 => ?_)
  subst hr_2
  refine nr_top (y := nI 1) (by rw [inR_n h_d (by omega)]; rfl) ?_
  refine nr_if_eq (tgt := 25) hx hb (by omega) d_M_set_13 (by decide) (fun c_13 => by exfalso; omega) (fun c_13 => ?_)
  refine lv_iload_n hx hb d_M_set_16 rfl (lv_at hl 3 rfl) ?_
  refine nr_iconst hx hb 0 d_M_set_17 (by decide) ?_
  refine nr_iconst hx hb 3 d_M_set_18 (by decide) ?_
  refine nr_calli (va_runS (As := [.int sf, .int (nI 0), .int (nI 3)]) (rest := []) ⟨hx, hb, hml, hown, hts⟩ (c_M_in l D sf (nI 0) (nI 3)) ⟨callB_of 3 hts (gTB q_M_in) rfl rfl rfl (htb _ q4) (htb _ q666) hd_M_in ⟨Nat.le_of_ble_eq_true rfl, Nat.le_of_ble_eq_true rfl⟩, (htb _ q667)⟩ ⟨ro_blind, ro_pre hN (hP.sub (ws' := []) [] rfl) (hK.sub (tys' := []) [] rfl)⟩ rfl rfl hl.1 rfl (lv_room (Nat.le_of_ble_eq_true rfl)) d_M_set_19 ⟨Nat.le_of_ble_eq_true rfl, Nat.le_of_ble_eq_true rfl⟩) (fun r_3 hr_3 => ?_)
  subst hr_3
  refine nr_top (y := nI 0) (by rw [hbad]; rfl) ?_
  refine nr_if_ne (tgt := 29) hx hb (by omega) d_M_set_22 (by decide) (fun c_22 => by exfalso; omega) (fun c_22 => ?_)
  refine nr_iconst hx hb 1 d_M_set_25 (by decide) ?_
  refine lv_goto (tgt := 30) hx hb d_M_set_26 (by decide) ?_
  refine lv_istore (lv' := [(4, .int (nI 1)), (0, .ref (am 0)), (1, .int (nI p1)), (2, .int (nI d)), (3, .int sf)]) hx hb d_M_set_30 hl (by decide) rfl (fun ls hl => ?_)
  refine lv_aload_n hx hb d_M_set_32 rfl (lv_at hl 1 rfl) ?_
  refine lv_iload hx hb d_M_set_33 (lv_at hl 0 rfl) ?_
  refine lv_iload hx hb d_M_set_35 (lv_at hl 0 rfl) ?_
  refine nr_if_ne (tgt := 52) hx hb (by omega) d_M_set_37 (by decide) (fun c_37 => ?_) (fun c_37 => by exfalso; omega)
  refine nr_iconst hx hb 0 d_M_set_52 (by decide) ?_
  refine nr_iconst hx hb 0 d_M_set_53 (by decide) ?_
  refine nr_iconst hx hb 0 d_M_set_54 (by decide) ?_
  refine nr_callwi (wr := ([] : va_W)) (va_runV (As := [.int (nI 1), .int (nI 0), .int (nI 0), .int (nI 0)]) (rest := []) ⟨hx, hb, hml, hown, hts⟩ (c_M_throwing l D am cm P G X 1 0 0 0 (by decide) (by decide) (by decide) (by decide) H.size) ⟨callB_of 4 hts (gTB q_M_throwing) rfl rfl rfl (htb _ q4) (htb _ q669) hd_M_throwing ⟨Nat.le_of_ble_eq_true rfl, Nat.le_of_ble_eq_true rfl⟩, (htb _ q671), (htb _ sel_M_throwing)⟩ ⟨rw_blind, va_recv (hK.sub (tys' := []) [] rfl) hP (ci := 3) (q0 := 0) rfl rfl, rw_pre hN (hP.sub (ws' := (wM am cm P G X)) [0, 1, 2, 3, 4, 5, 6, 7, 8, 9, 10, 11, 12, 13, 14] rfl) (hK.sub (tys' := (tM cm)) [0, 1, 2, 3, 4, 5, 6, 7, 8, 9, 10, 11, 12, 13] rfl) (hD.sub (ws' := (wM am cm P G X)) [0, 1, 2, 3, 4, 5, 6, 7, 8, 9, 10, 11, 12, 13, 14] (by decide) rfl)⟩ rfl rfl hl.1 rfl (lv_room (Nat.le_of_ble_eq_true rfl)) d_M_set_55 ⟨Nat.le_of_ble_eq_true rfl, Nat.le_of_ble_eq_true rfl⟩) hP hD hS hA [0, 1, 2, 3, 4, 5, 6, 7, 8, 9, 10, 11, 12, 13, 14] [] rfl rfl (by decide) (by decide) (fun r_4 u_4 H locs hr_4 hP hD hS => ?_)
  subst hr_4
  replace hP := hP.sub (ws' := wM am cm P G (up2 X 0 0 1)) [0, 1, 2, 3, 4, 5, 6, 7, 8, 9, 10, 11, 12, 13, 14] rfl
  replace hD := hD.sub (ws' := wM am cm P G (up2 X 0 0 1)) [0, 1, 2, 3, 4, 5, 6, 7, 8, 9, 10, 11, 12, 13, 14] (by decide) rfl
  refine nr_top (y := nI 1) rfl ?_
  refine nr_if_eq (tgt := 62) hx hb (by omega) d_M_set_58 (by decide) (fun c_58 => by exfalso; omega) (fun c_58 => ?_)
  exact W.vret hx hb hr (fun t ht hW => ⟨⟨(), rfl, trivial, by rw [ht]; exact hP, hD⟩, hS.F ht⟩) hS.2.2 d_M_set_61
set_option maxHeartbeats 4000000 in
set_option maxRecDepth 100000 in
theorem j_M_set_2 (l : Launch) (D : va_G) (am : Nat → Nat) (cm : Nat → ClassId) (P G X : Nat → Nat → Nat) (hP0 : okP P) (hG0 : okG G) (hX0 : okX X) (p1 d sf : Nat) (h_p1 : (p1 < P 0 0)) (h_d : (d < P 0 1)) (h_sf : (0 ≤ sf ∧ sf ≤ 3)) (hfz : d < G 0 0) (sz : Nat) : Met l y_M_set w_M_set { frames := 2, cells := 0, slots := 0, locals := 43 } (rw_P [.ref (am 0), .int (nI p1), .int (nI d), .int (nI sf)] D (wM am cm P G X) (tM cm) sz) (rw_Qv (fun u : Unit => True) D (wM am cm P G X) (fun u => wM am cm P G (up2 X 0 0 2)) sz) 0 0 (va_A (wM am cm P G X) sz) := by
  refine Met.ofW (cc := b_M_set) (maxL := 5) (ret := none) (by decide) rfl ?_
  intro p e s m args below meth c s₁ B hml hv
  obtain ⟨rfl, hsz, hN, hP, hK, hD0⟩ := hv
  have hx := B.exec
  have hb := B.bytes
  have hr := B.returns
  have hts := atoms_spec (ws := w_M_set) B.pre
  have htb : ∀ w ∈ TBG, w.before [.ref (am 0), .int (nI p1), .int (nI d), .int (nI sf)].toArray s = true := fun w h => hts w (List.mem_cons_of_mem _ h)
  have hown : s.vm.findClass R_M = some m.cls := findClass_of_methodNamed B.named
  have hlocks := B.notSynchronized
  subst hsz
  have hD := hD0.self (sz := s.heap.size)
  unfold rw_Qv
  generalize hAe : va_A (wM am cm P G X) s.heap.size = A at hD ⊢
  have hA : ∀ q : Nat, s.heap.size ≤ q → A q := fun q h => by rw [← hAe]; exact Or.inr h
  have hS : va_S A s.heap s.heap [] := va_S.rf
  have hl := lv_entry ([.ref (am 0), .int (nI p1), .int (nI d), .int (nI sf)]) (n := 5) (Nat.le_of_ble_eq_true rfl)
  rw [lg_entry_eq]
  generalize (lg_sl ([.ref (am 0), .int (nI p1), .int (nI d), .int (nI sf)]) ++ List.replicate (5 - (lg_sl ([.ref (am 0), .int (nI p1), .int (nI d), .int (nI sf)])).length) Slot.unset).toArray = ls at hl ⊢
  have hl : lv_has ls 5 [(0, .ref (am 0)), (1, .int (nI p1)), (2, .int (nI d)), (3, .int (nI sf))] := hl
  refine nr_start hP hS (fun H locs hP hS => ?_)
  obtain ⟨h00, h01, h02, h03, h04, h05, hp1, hp2, hp3, hp4, hp5, hp6⟩ := id hP0
  obtain ⟨k00, k01, hg1, hg2⟩ := id hG0
  obtain ⟨x00, x01, x02, x03, hx1, hx2, hx3, hx4, hx5, hx6, hx7⟩ := id hX0
  refine lv_aload_n hx hb d_M_set_0 rfl (lv_at hl 0 rfl) ?_
  refine lv_iload_n hx hb d_M_set_1 rfl (lv_at hl 1 rfl) ?_
  refine nr_calli (va_runV (As := [.int (nI p1)]) (rest := []) ⟨hx, hb, hml, hown, hts⟩ (c_M_isPerson l D am cm P G X (am 3) (cm 2) (G 1) hP0 hG0 hX0 hg1 (nI p1)) ⟨callB_of 1 hts (gTB q_M_isPerson) rfl rfl rfl (htb _ q4) (htb _ q693) hd_M_isPerson ⟨Nat.le_of_ble_eq_true rfl, Nat.le_of_ble_eq_true rfl⟩, (htb _ q695), (htb _ sel_M_isPerson)⟩ ⟨ro_blind, va_recv (hK.sub (tys' := []) [] rfl) hP (ci := 3) (q0 := 0) rfl rfl, ro_pre hN (hP.sub (ws' := (wMS am cm P G X (am 3) (cm 2) (G 1))) [0, 1, 2, 3, 4, 5, 6, 7, 8, 9, 10, 11, 12, 13, 14, 3] rfl) (hK.sub (tys' := (tMS cm (cm 2))) [0, 1, 2, 3, 4, 5, 6, 7, 8, 9, 10, 11, 12, 13, 2] rfl)⟩ rfl rfl hl.1 rfl (lv_room (Nat.le_of_ble_eq_true rfl)) d_M_set_2 ⟨Nat.le_of_ble_eq_true rfl, Nat.le_of_ble_eq_true rfl⟩) (fun r_1 hr_1 => ?_)
  subst hr_1
  refine nr_top (y := nI 1) (by rw [inR_n h_p1 (by omega)]; rfl) ?_
  refine nr_if_eq (tgt := 25) hx hb (by omega) d_M_set_5 (by decide) (fun c_5 => by exfalso; omega) (fun c_5 => ?_)
  refine lv_aload_n hx hb d_M_set_8 rfl (lv_at hl 0 rfl) ?_
  refine lv_iload_n hx hb d_M_set_9 rfl (lv_at hl 2 rfl) ?_
  refine nr_calli (va_runV (As := [.int (nI d)]) (rest := []) ⟨hx, hb, hml, hown, hts⟩ (c_M_isDay l D am cm P G X (am 3) (cm 2) (G 1) hP0 hG0 hX0 hg1 (nI d)) ⟨callB_of 1 hts (gTB q_M_isDay) rfl rfl rfl (htb _ q4) (htb _ q681) hd_M_isDay ⟨Nat.le_of_ble_eq_true rfl, Nat.le_of_ble_eq_true rfl⟩, (htb _ q683), (htb _ sel_M_isDay)⟩ ⟨ro_blind, va_recv (hK.sub (tys' := []) [] rfl) hP (ci := 3) (q0 := 0) rfl rfl, ro_pre hN (hP.sub (ws' := (wMS am cm P G X (am 3) (cm 2) (G 1))) [0, 1, 2, 3, 4, 5, 6, 7, 8, 9, 10, 11, 12, 13, 14, 3] rfl) (hK.sub (tys' := (tMS cm (cm 2))) [0, 1, 2, 3, 4, 5, 6, 7, 8, 9, 10, 11, 12, 13, 2] rfl)⟩ rfl rfl hl.1 rfl (lv_room (Nat.le_of_ble_eq_true rfl)) d_M_set_10 ⟨Nat.le_of_ble_eq_true rfl, Nat.le_of_ble_eq_true rfl⟩) (fun r_2 hr_2 => ?_)
  subst hr_2
  refine nr_top (y := nI 1) (by rw [inR_n h_d (by omega)]; rfl) ?_
  refine nr_if_eq (tgt := 25) hx hb (by omega) d_M_set_13 (by decide) (fun c_13 => by exfalso; omega) (fun c_13 => ?_)
  refine lv_iload_n hx hb d_M_set_16 rfl (lv_at hl 3 rfl) ?_
  refine nr_iconst hx hb 0 d_M_set_17 (by decide) ?_
  refine nr_iconst hx hb 3 d_M_set_18 (by decide) ?_
  refine nr_calli (va_runS (As := [.int (nI sf), .int (nI 0), .int (nI 3)]) (rest := []) ⟨hx, hb, hml, hown, hts⟩ (c_M_in l D (nI sf) (nI 0) (nI 3)) ⟨callB_of 3 hts (gTB q_M_in) rfl rfl rfl (htb _ q4) (htb _ q666) hd_M_in ⟨Nat.le_of_ble_eq_true rfl, Nat.le_of_ble_eq_true rfl⟩, (htb _ q667)⟩ ⟨ro_blind, ro_pre hN (hP.sub (ws' := []) [] rfl) (hK.sub (tys' := []) [] rfl)⟩ rfl rfl hl.1 rfl (lv_room (Nat.le_of_ble_eq_true rfl)) d_M_set_19 ⟨Nat.le_of_ble_eq_true rfl, Nat.le_of_ble_eq_true rfl⟩) (fun r_3 hr_3 => ?_)
  subst hr_3
  refine nr_top (y := nI 1) (by rw [in_n (h_sf).1 (h_sf).2 (by omega)]; rfl) ?_
  refine nr_if_ne (tgt := 29) hx hb (by omega) d_M_set_22 (by decide) (fun c_22 => ?_) (fun c_22 => by exfalso; omega)
  refine nr_iconst hx hb 0 d_M_set_29 (by decide) ?_
  refine lv_istore (lv' := [(4, .int (nI 0)), (0, .ref (am 0)), (1, .int (nI p1)), (2, .int (nI d)), (3, .int (nI sf))]) hx hb d_M_set_30 hl (by decide) rfl (fun ls hl => ?_)
  refine lv_aload_n hx hb d_M_set_32 rfl (lv_at hl 1 rfl) ?_
  refine lv_iload hx hb d_M_set_33 (lv_at hl 0 rfl) ?_
  refine lv_iload hx hb d_M_set_35 (lv_at hl 0 rfl) ?_
  refine nr_if_ne (tgt := 52) hx hb (by omega) d_M_set_37 (by decide) (fun c_37 => by exfalso; omega) (fun c_37 => ?_)
  refine lv_iload_n hx hb d_M_set_40 rfl (lv_at hl 3 rfl) ?_
  refine lv_aload_n hx hb d_M_set_41 rfl (lv_at hl 1 rfl) ?_
  refine va_get (D := D) (ci := 3) (v := .int (nI (G 0 0))) (C := R_M) (T := F_M) (N := 26) hx hb htb u_M hown hK hP 0 rfl rfl 3 (by decide) (htb _ q582) (fun _ h9 => h9) rfl d_M_set_42 ?_
  refine nr_icmp_ge (tgt := 52) hx hb (by omega) (by omega) d_M_set_45 (by decide) (fun c_45 => by exfalso; omega) (fun c_45 => ?_)
  refine nr_iconst hx hb 1 d_M_set_48 (by decide) ?_
  refine lv_goto (tgt := 53) hx hb d_M_set_49 (by decide) ?_
  refine nr_iconst hx hb 0 d_M_set_53 (by decide) ?_
  refine nr_iconst hx hb 0 d_M_set_54 (by decide) ?_
  refine nr_callwi (wr := ([] : va_W)) (va_runV (As := [.int (nI 0), .int (nI 1), .int (nI 0), .int (nI 0)]) (rest := []) ⟨hx, hb, hml, hown, hts⟩ (c_M_throwing l D am cm P G X 0 1 0 0 (by decide) (by decide) (by decide) (by decide) H.size) ⟨callB_of 4 hts (gTB q_M_throwing) rfl rfl rfl (htb _ q4) (htb _ q669) hd_M_throwing ⟨Nat.le_of_ble_eq_true rfl, Nat.le_of_ble_eq_true rfl⟩, (htb _ q671), (htb _ sel_M_throwing)⟩ ⟨rw_blind, va_recv (hK.sub (tys' := []) [] rfl) hP (ci := 3) (q0 := 0) rfl rfl, rw_pre hN (hP.sub (ws' := (wM am cm P G X)) [0, 1, 2, 3, 4, 5, 6, 7, 8, 9, 10, 11, 12, 13, 14] rfl) (hK.sub (tys' := (tM cm)) [0, 1, 2, 3, 4, 5, 6, 7, 8, 9, 10, 11, 12, 13] rfl) (hD.sub (ws' := (wM am cm P G X)) [0, 1, 2, 3, 4, 5, 6, 7, 8, 9, 10, 11, 12, 13, 14] (by decide) rfl)⟩ rfl rfl hl.1 rfl (lv_room (Nat.le_of_ble_eq_true rfl)) d_M_set_55 ⟨Nat.le_of_ble_eq_true rfl, Nat.le_of_ble_eq_true rfl⟩) hP hD hS hA [0, 1, 2, 3, 4, 5, 6, 7, 8, 9, 10, 11, 12, 13, 14] [] rfl rfl (by decide) (by decide) (fun r_4 u_4 H locs hr_4 hP hD hS => ?_)
  subst hr_4
  replace hP := hP.sub (ws' := wM am cm P G (up2 X 0 0 2)) [0, 1, 2, 3, 4, 5, 6, 7, 8, 9, 10, 11, 12, 13, 14] rfl
  replace hD := hD.sub (ws' := wM am cm P G (up2 X 0 0 2)) [0, 1, 2, 3, 4, 5, 6, 7, 8, 9, 10, 11, 12, 13, 14] (by decide) rfl
  refine nr_top (y := nI 1) rfl ?_
  refine nr_if_eq (tgt := 62) hx hb (by omega) d_M_set_58 (by decide) (fun c_58 => by exfalso; omega) (fun c_58 => ?_)
  exact W.vret hx hb hr (fun t ht hW => ⟨⟨(), rfl, trivial, by rw [ht]; exact hP, hD⟩, hS.F ht⟩) hS.2.2 d_M_set_61
set_option maxHeartbeats 4000000 in
set_option maxRecDepth 100000 in
theorem j_M_shift_1a (l : Launch) (D : va_G) (am : Nat → Nat) (cm : Nat → ClassId) (P G X : Nat → Nat → Nat) (hP0 : okP P) (hG0 : okG G) (hX0 : okX X) (p1 d : Int32) (hbad : inR p1 (P 0 0) = false) (sz : Nat) : Met l y_M_shift w_M_shift { frames := 2, cells := 0, slots := 0, locals := 43 } (rw_P [.ref (am 0), .int p1, .int d] D (wM am cm P G X) (tM cm) sz) (rw_Qi (fun (r : Int32) (u : Unit) => r = nI 0) D (wM am cm P G X) (fun u => wM am cm P G (up2 X 0 0 1)) sz) 0 0 (va_A (wM am cm P G X) sz) := by
  refine Met.ofW (cc := b_M_shift) (maxL := 3) (ret := (some .int)) (by decide) rfl ?_
  intro p e s m args below meth c s₁ B hml hv
  obtain ⟨rfl, hsz, hN, hP, hK, hD0⟩ := hv
  have hx := B.exec
  have hb := B.bytes
  have hr := B.returns
  have hts := atoms_spec (ws := w_M_shift) B.pre
  have htb : ∀ w ∈ TBG, w.before [.ref (am 0), .int p1, .int d].toArray s = true := fun w h => hts w (List.mem_cons_of_mem _ h)
  have hown : s.vm.findClass R_M = some m.cls := findClass_of_methodNamed B.named
  have hlocks := B.notSynchronized
  subst hsz
  have hD := hD0.self (sz := s.heap.size)
  unfold rw_Qi
  generalize hAe : va_A (wM am cm P G X) s.heap.size = A at hD ⊢
  have hA : ∀ q : Nat, s.heap.size ≤ q → A q := fun q h => by rw [← hAe]; exact Or.inr h
  have hS : va_S A s.heap s.heap [] := va_S.rf
  have hl := lv_entry ([.ref (am 0), .int p1, .int d]) (n := 3) (Nat.le_of_ble_eq_true rfl)
  rw [lg_entry_eq]
  generalize (lg_sl ([.ref (am 0), .int p1, .int d]) ++ List.replicate (3 - (lg_sl ([.ref (am 0), .int p1, .int d])).length) Slot.unset).toArray = ls at hl ⊢
  have hl : lv_has ls 3 [(0, .ref (am 0)), (1, .int p1), (2, .int d)] := hl
  refine nr_start hP hS (fun H locs hP hS => ?_)
  obtain ⟨h00, h01, h02, h03, h04, h05, hp1, hp2, hp3, hp4, hp5, hp6⟩ := id hP0
  obtain ⟨k00, k01, hg1, hg2⟩ := id hG0
  obtain ⟨x00, x01, x02, x03, hx1, hx2, hx3, hx4, hx5, hx6, hx7⟩ := id hX0
  refine lv_aload_n hx hb d_M_shift_0 rfl (lv_at hl 0 rfl) ?_
  refine lv_aload_n hx hb d_M_shift_1 rfl (lv_at hl 0 rfl) ?_
  refine lv_iload_n hx hb d_M_shift_2 rfl (lv_at hl 1 rfl) ?_
  refine nr_calli (va_runV (As := [.int p1]) (rest := [.ref (am 0)]) ⟨hx, hb, hml, hown, hts⟩ (c_M_isPerson l D am cm P G X (am 3) (cm 2) (G 1) hP0 hG0 hX0 hg1 p1) ⟨callB_of 1 hts (gTB q_M_isPerson) rfl rfl rfl (htb _ q4) (htb _ q693) hd_M_isPerson ⟨Nat.le_of_ble_eq_true rfl, Nat.le_of_ble_eq_true rfl⟩, (htb _ q695), (htb _ sel_M_isPerson)⟩ ⟨ro_blind, va_recv (hK.sub (tys' := []) [] rfl) hP (ci := 3) (q0 := 0) rfl rfl, ro_pre hN (hP.sub (ws' := (wMS am cm P G X (am 3) (cm 2) (G 1))) [0, 1, 2, 3, 4, 5, 6, 7, 8, 9, 10, 11, 12, 13, 14, 3] rfl) (hK.sub (tys' := (tMS cm (cm 2))) [0, 1, 2, 3, 4, 5, 6, 7, 8, 9, 10, 11, 12, 13, 2] rfl)⟩ rfl rfl hl.1 rfl (lv_room (Nat.le_of_ble_eq_true rfl)) d_M_shift_3 ⟨Nat.le_of_ble_eq_true rfl, Nat.le_of_ble_eq_true rfl⟩) (fun r_1 hr_1 => ?_)
  subst hr_1
  refine nr_top (y := nI 0) (by rw [hbad]; rfl) ?_
  refine nr_if_eq (tgt := 17) hx hb (by omega) d_M_shift_6 (by decide) (fun c_6 => ?_) (fun c_6 => by exfalso; omega)
  refine nr_iconst hx hb 1 d_M_shift_17 (by decide) ?_
  refine lv_goto (tgt := 22) hx hb d_M_shift_18 (by decide) ?_
  refine nr_iconst hx hb 0 d_M_shift_22 (by decide) ?_
  refine nr_iconst hx hb 0 d_M_shift_23 (by decide) ?_
  refine nr_iconst hx hb 0 d_M_shift_24 (by decide) ?_
  refine nr_callwi (wr := ([] : va_W)) (va_runV (As := [.int (nI 1), .int (nI 0), .int (nI 0), .int (nI 0)]) (rest := []) ⟨hx, hb, hml, hown, hts⟩ (c_M_throwing l D am cm P G X 1 0 0 0 (by decide) (by decide) (by decide) (by decide) H.size) ⟨callB_of 4 hts (gTB q_M_throwing) rfl rfl rfl (htb _ q4) (htb _ q669) hd_M_throwing ⟨Nat.le_of_ble_eq_true rfl, Nat.le_of_ble_eq_true rfl⟩, (htb _ q671), (htb _ sel_M_throwing)⟩ ⟨rw_blind, va_recv (hK.sub (tys' := []) [] rfl) hP (ci := 3) (q0 := 0) rfl rfl, rw_pre hN (hP.sub (ws' := (wM am cm P G X)) [0, 1, 2, 3, 4, 5, 6, 7, 8, 9, 10, 11, 12, 13, 14] rfl) (hK.sub (tys' := (tM cm)) [0, 1, 2, 3, 4, 5, 6, 7, 8, 9, 10, 11, 12, 13] rfl) (hD.sub (ws' := (wM am cm P G X)) [0, 1, 2, 3, 4, 5, 6, 7, 8, 9, 10, 11, 12, 13, 14] (by decide) rfl)⟩ rfl rfl hl.1 rfl (lv_room (Nat.le_of_ble_eq_true rfl)) d_M_shift_25 ⟨Nat.le_of_ble_eq_true rfl, Nat.le_of_ble_eq_true rfl⟩) hP hD hS hA [0, 1, 2, 3, 4, 5, 6, 7, 8, 9, 10, 11, 12, 13, 14] [] rfl rfl (by decide) (by decide) (fun r_2 u_2 H locs hr_2 hP hD hS => ?_)
  subst hr_2
  replace hP := hP.sub (ws' := wM am cm P G (up2 X 0 0 1)) [0, 1, 2, 3, 4, 5, 6, 7, 8, 9, 10, 11, 12, 13, 14] rfl
  replace hD := hD.sub (ws' := wM am cm P G (up2 X 0 0 1)) [0, 1, 2, 3, 4, 5, 6, 7, 8, 9, 10, 11, 12, 13, 14] (by decide) rfl
  refine nr_top (y := nI 1) rfl ?_
  refine nr_if_eq (tgt := 33) hx hb (by omega) d_M_shift_28 (by decide) (fun c_28 => by exfalso; omega) (fun c_28 => ?_)
  refine nr_iconst hx hb 0 d_M_shift_31 (by decide) ?_
  exact W.iret (v := (nI 0)) hx hb hr (fun t ht hW => ⟨⟨_, (), rfl, rfl, by rw [ht]; exact hP, hD⟩, hS.F ht⟩) hS.2.2 d_M_shift_32
set_option maxHeartbeats 4000000 in
set_option maxRecDepth 100000 in
theorem j_M_shift_1b (l : Launch) (D : va_G) (am : Nat → Nat) (cm : Nat → ClassId) (P G X : Nat → Nat → Nat) (hP0 : okP P) (hG0 : okG G) (hX0 : okX X) (p1 : Nat) (d : Int32) (h_p1 : (p1 < P 0 0)) (hbad : inR d (P 0 1) = false) (sz : Nat) : Met l y_M_shift w_M_shift { frames := 2, cells := 0, slots := 0, locals := 43 } (rw_P [.ref (am 0), .int (nI p1), .int d] D (wM am cm P G X) (tM cm) sz) (rw_Qi (fun (r : Int32) (u : Unit) => r = nI 0) D (wM am cm P G X) (fun u => wM am cm P G (up2 X 0 0 1)) sz) 0 0 (va_A (wM am cm P G X) sz) := by
  refine Met.ofW (cc := b_M_shift) (maxL := 3) (ret := (some .int)) (by decide) rfl ?_
  intro p e s m args below meth c s₁ B hml hv
  obtain ⟨rfl, hsz, hN, hP, hK, hD0⟩ := hv
  have hx := B.exec
  have hb := B.bytes
  have hr := B.returns
  have hts := atoms_spec (ws := w_M_shift) B.pre
  have htb : ∀ w ∈ TBG, w.before [.ref (am 0), .int (nI p1), .int d].toArray s = true := fun w h => hts w (List.mem_cons_of_mem _ h)
  have hown : s.vm.findClass R_M = some m.cls := findClass_of_methodNamed B.named
  have hlocks := B.notSynchronized
  subst hsz
  have hD := hD0.self (sz := s.heap.size)
  unfold rw_Qi
  generalize hAe : va_A (wM am cm P G X) s.heap.size = A at hD ⊢
  have hA : ∀ q : Nat, s.heap.size ≤ q → A q := fun q h => by rw [← hAe]; exact Or.inr h
  have hS : va_S A s.heap s.heap [] := va_S.rf
  have hl := lv_entry ([.ref (am 0), .int (nI p1), .int d]) (n := 3) (Nat.le_of_ble_eq_true rfl)
  rw [lg_entry_eq]
  generalize (lg_sl ([.ref (am 0), .int (nI p1), .int d]) ++ List.replicate (3 - (lg_sl ([.ref (am 0), .int (nI p1), .int d])).length) Slot.unset).toArray = ls at hl ⊢
  have hl : lv_has ls 3 [(0, .ref (am 0)), (1, .int (nI p1)), (2, .int d)] := hl
  refine nr_start hP hS (fun H locs hP hS => ?_)
  obtain ⟨h00, h01, h02, h03, h04, h05, hp1, hp2, hp3, hp4, hp5, hp6⟩ := id hP0
  obtain ⟨k00, k01, hg1, hg2⟩ := id hG0
  obtain ⟨x00, x01, x02, x03, hx1, hx2, hx3, hx4, hx5, hx6, hx7⟩ := id hX0
  refine lv_aload_n hx hb d_M_shift_0 rfl (lv_at hl 0 rfl) ?_
  refine lv_aload_n hx hb d_M_shift_1 rfl (lv_at hl 0 rfl) ?_
  refine lv_iload_n hx hb d_M_shift_2 rfl (lv_at hl 1 rfl) ?_
  refine nr_calli (va_runV (As := [.int (nI p1)]) (rest := [.ref (am 0)]) ⟨hx, hb, hml, hown, hts⟩ (c_M_isPerson l D am cm P G X (am 3) (cm 2) (G 1) hP0 hG0 hX0 hg1 (nI p1)) ⟨callB_of 1 hts (gTB q_M_isPerson) rfl rfl rfl (htb _ q4) (htb _ q693) hd_M_isPerson ⟨Nat.le_of_ble_eq_true rfl, Nat.le_of_ble_eq_true rfl⟩, (htb _ q695), (htb _ sel_M_isPerson)⟩ ⟨ro_blind, va_recv (hK.sub (tys' := []) [] rfl) hP (ci := 3) (q0 := 0) rfl rfl, ro_pre hN (hP.sub (ws' := (wMS am cm P G X (am 3) (cm 2) (G 1))) [0, 1, 2, 3, 4, 5, 6, 7, 8, 9, 10, 11, 12, 13, 14, 3] rfl) (hK.sub (tys' := (tMS cm (cm 2))) [0, 1, 2, 3, 4, 5, 6, 7, 8, 9, 10, 11, 12, 13, 2] rfl)⟩ rfl rfl hl.1 rfl (lv_room (Nat.le_of_ble_eq_true rfl)) d_M_shift_3 ⟨Nat.le_of_ble_eq_true rfl, Nat.le_of_ble_eq_true rfl⟩) (fun r_1 hr_1 => ?_)
  subst hr_1
  refine nr_top (y := nI 1) (by rw [inR_n h_p1 (by omega)]; rfl) ?_
  refine nr_if_eq (tgt := 17) hx hb (by omega) d_M_shift_6 (by decide) (fun c_6 => by exfalso; omega) (fun c_6 => ?_)
  refine lv_aload_n hx hb d_M_shift_9 rfl (lv_at hl 0 rfl) ?_
  refine lv_iload_n hx hb d_M_shift_10 rfl (lv_at hl 2 rfl) ?_
  refine nr_calli (va_runV (As := [.int d]) (rest := [.ref (am 0)]) ⟨hx, hb, hml, hown, hts⟩ (c_M_isDay l D am cm P G X (am 3) (cm 2) (G 1) hP0 hG0 hX0 hg1 d) ⟨callB_of 1 hts (gTB q_M_isDay) rfl rfl rfl (htb _ q4) (htb _ q681) hd_M_isDay ⟨Nat.le_of_ble_eq_true rfl, Nat.le_of_ble_eq_true rfl⟩, (htb _ q683), (htb _ sel_M_isDay)⟩ ⟨ro_blind, va_recv (hK.sub (tys' := []) [] rfl) hP (ci := 3) (q0 := 0) rfl rfl, ro_pre hN (hP.sub (ws' := (wMS am cm P G X (am 3) (cm 2) (G 1))) [0, 1, 2, 3, 4, 5, 6, 7, 8, 9, 10, 11, 12, 13, 14, 3] rfl) (hK.sub (tys' := (tMS cm (cm 2))) [0, 1, 2, 3, 4, 5, 6, 7, 8, 9, 10, 11, 12, 13, 2] rfl)⟩ rfl rfl hl.1 rfl (lv_room (Nat.le_of_ble_eq_true rfl)) d_M_shift_11 ⟨Nat.le_of_ble_eq_true rfl, Nat.le_of_ble_eq_true rfl⟩) (fun r_2 hr_2 => ?_)
  subst hr_2
  refine nr_top (y := nI 0) (by rw [hbad]; rfl) ?_
  refine nr_if_ne (tgt := 21) hx hb (by omega) d_M_shift_14 (by decide) (fun c_14 => by exfalso; omega) (fun c_14 => ?_)
  refine nr_iconst hx hb 1 d_M_shift_17 (by decide) ?_
  refine lv_goto (tgt := 22) hx hb d_M_shift_18 (by decide) ?_
  refine nr_iconst hx hb 0 d_M_shift_22 (by decide) ?_
  refine nr_iconst hx hb 0 d_M_shift_23 (by decide) ?_
  refine nr_iconst hx hb 0 d_M_shift_24 (by decide) ?_
  refine nr_callwi (wr := ([] : va_W)) (va_runV (As := [.int (nI 1), .int (nI 0), .int (nI 0), .int (nI 0)]) (rest := []) ⟨hx, hb, hml, hown, hts⟩ (c_M_throwing l D am cm P G X 1 0 0 0 (by decide) (by decide) (by decide) (by decide) H.size) ⟨callB_of 4 hts (gTB q_M_throwing) rfl rfl rfl (htb _ q4) (htb _ q669) hd_M_throwing ⟨Nat.le_of_ble_eq_true rfl, Nat.le_of_ble_eq_true rfl⟩, (htb _ q671), (htb _ sel_M_throwing)⟩ ⟨rw_blind, va_recv (hK.sub (tys' := []) [] rfl) hP (ci := 3) (q0 := 0) rfl rfl, rw_pre hN (hP.sub (ws' := (wM am cm P G X)) [0, 1, 2, 3, 4, 5, 6, 7, 8, 9, 10, 11, 12, 13, 14] rfl) (hK.sub (tys' := (tM cm)) [0, 1, 2, 3, 4, 5, 6, 7, 8, 9, 10, 11, 12, 13] rfl) (hD.sub (ws' := (wM am cm P G X)) [0, 1, 2, 3, 4, 5, 6, 7, 8, 9, 10, 11, 12, 13, 14] (by decide) rfl)⟩ rfl rfl hl.1 rfl (lv_room (Nat.le_of_ble_eq_true rfl)) d_M_shift_25 ⟨Nat.le_of_ble_eq_true rfl, Nat.le_of_ble_eq_true rfl⟩) hP hD hS hA [0, 1, 2, 3, 4, 5, 6, 7, 8, 9, 10, 11, 12, 13, 14] [] rfl rfl (by decide) (by decide) (fun r_3 u_3 H locs hr_3 hP hD hS => ?_)
  subst hr_3
  replace hP := hP.sub (ws' := wM am cm P G (up2 X 0 0 1)) [0, 1, 2, 3, 4, 5, 6, 7, 8, 9, 10, 11, 12, 13, 14] rfl
  replace hD := hD.sub (ws' := wM am cm P G (up2 X 0 0 1)) [0, 1, 2, 3, 4, 5, 6, 7, 8, 9, 10, 11, 12, 13, 14] (by decide) rfl
  refine nr_top (y := nI 1) rfl ?_
  refine nr_if_eq (tgt := 33) hx hb (by omega) d_M_shift_28 (by decide) (fun c_28 => by exfalso; omega) (fun c_28 => ?_)
  refine nr_iconst hx hb 0 d_M_shift_31 (by decide) ?_
  exact W.iret (v := (nI 0)) hx hb hr (fun t ht hW => ⟨⟨_, (), rfl, rfl, by rw [ht]; exact hP, hD⟩, hS.F ht⟩) hS.2.2 d_M_shift_32
set_option maxHeartbeats 4000000 in
set_option maxRecDepth 100000 in
theorem j_M_solve_1 (l : Launch) (D : va_G) (am : Nat → Nat) (cm : Nat → ClassId) (P G X : Nat → Nat → Nat) (hP0 : okP P) (hG0 : okG G) (hX0 : okX X) (x : Int32) (hbad : decide (nI 0 ≤ x ∧ x ≤ nI 20000) = false) (sz : Nat) : Met l y_M_solve w_M_solve { frames := 1, cells := 0, slots := 0, locals := 24 } (rw_P [.ref (am 0), .int x] D (wM am cm P G X) (tM cm) sz) (rw_Qi (fun (r : Int32) (u : Unit) => r = nI 0) D (wM am cm P G X) (fun u => wM am cm P G (up2 X 0 0 1)) sz) 0 0 (va_A (wM am cm P G X) sz) := by
  refine Met.ofW (cc := b_M_solve) (maxL := 4) (ret := (some .int)) (by decide) rfl ?_
  intro p e s m args below meth c s₁ B hml hv
  obtain ⟨rfl, hsz, hN, hP, hK, hD0⟩ := hv
  have hx := B.exec
  have hb := B.bytes
  have hr := B.returns
  have hts := atoms_spec (ws := w_M_solve) B.pre
  have htb : ∀ w ∈ TBG, w.before [.ref (am 0), .int x].toArray s = true := fun w h => hts w (List.mem_cons_of_mem _ h)
  have hown : s.vm.findClass R_M = some m.cls := findClass_of_methodNamed B.named
  have hlocks := B.notSynchronized
  subst hsz
  have hD := hD0.self (sz := s.heap.size)
  unfold rw_Qi
  generalize hAe : va_A (wM am cm P G X) s.heap.size = A at hD ⊢
  have hA : ∀ q : Nat, s.heap.size ≤ q → A q := fun q h => by rw [← hAe]; exact Or.inr h
  have hS : va_S A s.heap s.heap [] := va_S.rf
  have hl := lv_entry ([.ref (am 0), .int x]) (n := 4) (Nat.le_of_ble_eq_true rfl)
  rw [lg_entry_eq]
  generalize (lg_sl ([.ref (am 0), .int x]) ++ List.replicate (4 - (lg_sl ([.ref (am 0), .int x])).length) Slot.unset).toArray = ls at hl ⊢
  have hl : lv_has ls 4 [(0, .ref (am 0)), (1, .int x)] := hl
  refine nr_start hP hS (fun H locs hP hS => ?_)
  obtain ⟨h00, h01, h02, h03, h04, h05, hp1, hp2, hp3, hp4, hp5, hp6⟩ := id hP0
  obtain ⟨k00, k01, hg1, hg2⟩ := id hG0
  obtain ⟨x00, x01, x02, x03, hx1, hx2, hx3, hx4, hx5, hx6, hx7⟩ := id hX0
  refine lv_aload_n hx hb d_M_solve_0 rfl (lv_at hl 0 rfl) ?_
  refine lv_iload_n hx hb d_M_solve_1 rfl (lv_at hl 1 rfl) ?_
  refine nr_iconst hx hb 0 d_M_solve_2 (by decide) ?_
  refine nr_sipush hx hb 20000 d_M_solve_3 (by decide) ?_
  refine nr_calli (va_runS (As := [.int x, .int (nI 0), .int (nI 20000)]) (rest := [.ref (am 0)]) ⟨hx, hb, hml, hown, hts⟩ (c_M_in l D x (nI 0) (nI 20000)) ⟨callB_of 3 hts (gTB q_M_in) rfl rfl rfl (htb _ q4) (htb _ q666) hd_M_in ⟨Nat.le_of_ble_eq_true rfl, Nat.le_of_ble_eq_true rfl⟩, (htb _ q667)⟩ ⟨ro_blind, ro_pre hN (hP.sub (ws' := []) [] rfl) (hK.sub (tys' := []) [] rfl)⟩ rfl rfl hl.1 rfl (lv_room (Nat.le_of_ble_eq_true rfl)) d_M_solve_6 ⟨Nat.le_of_ble_eq_true rfl, Nat.le_of_ble_eq_true rfl⟩) (fun r_1 hr_1 => ?_)
  subst hr_1
  refine nr_top (y := nI 0) (by rw [hbad]; rfl) ?_
  refine nr_if_ne (tgt := 16) hx hb (by omega) d_M_solve_9 (by decide) (fun c_9 => by exfalso; omega) (fun c_9 => ?_)
  refine nr_iconst hx hb 1 d_M_solve_12 (by decide) ?_
  refine lv_goto (tgt := 17) hx hb d_M_solve_13 (by decide) ?_
  refine nr_iconst hx hb 0 d_M_solve_17 (by decide) ?_
  refine nr_iconst hx hb 0 d_M_solve_18 (by decide) ?_
  refine nr_iconst hx hb 0 d_M_solve_19 (by decide) ?_
  refine nr_callwi (wr := ([] : va_W)) (va_runV (As := [.int (nI 1), .int (nI 0), .int (nI 0), .int (nI 0)]) (rest := []) ⟨hx, hb, hml, hown, hts⟩ (c_M_throwing l D am cm P G X 1 0 0 0 (by decide) (by decide) (by decide) (by decide) H.size) ⟨callB_of 4 hts (gTB q_M_throwing) rfl rfl rfl (htb _ q4) (htb _ q669) hd_M_throwing ⟨Nat.le_of_ble_eq_true rfl, Nat.le_of_ble_eq_true rfl⟩, (htb _ q671), (htb _ sel_M_throwing)⟩ ⟨rw_blind, va_recv (hK.sub (tys' := []) [] rfl) hP (ci := 3) (q0 := 0) rfl rfl, rw_pre hN (hP.sub (ws' := (wM am cm P G X)) [0, 1, 2, 3, 4, 5, 6, 7, 8, 9, 10, 11, 12, 13, 14] rfl) (hK.sub (tys' := (tM cm)) [0, 1, 2, 3, 4, 5, 6, 7, 8, 9, 10, 11, 12, 13] rfl) (hD.sub (ws' := (wM am cm P G X)) [0, 1, 2, 3, 4, 5, 6, 7, 8, 9, 10, 11, 12, 13, 14] (by decide) rfl)⟩ rfl rfl hl.1 rfl (lv_room (Nat.le_of_ble_eq_true rfl)) d_M_solve_20 ⟨Nat.le_of_ble_eq_true rfl, Nat.le_of_ble_eq_true rfl⟩) hP hD hS hA [0, 1, 2, 3, 4, 5, 6, 7, 8, 9, 10, 11, 12, 13, 14] [] rfl rfl (by decide) (by decide) (fun r_2 u_2 H locs hr_2 hP hD hS => ?_)
  subst hr_2
  replace hP := hP.sub (ws' := wM am cm P G (up2 X 0 0 1)) [0, 1, 2, 3, 4, 5, 6, 7, 8, 9, 10, 11, 12, 13, 14] rfl
  replace hD := hD.sub (ws' := wM am cm P G (up2 X 0 0 1)) [0, 1, 2, 3, 4, 5, 6, 7, 8, 9, 10, 11, 12, 13, 14] (by decide) rfl
  refine nr_top (y := nI 1) rfl ?_
  refine nr_if_eq (tgt := 28) hx hb (by omega) d_M_solve_23 (by decide) (fun c_23 => by exfalso; omega) (fun c_23 => ?_)
  refine nr_iconst hx hb 0 d_M_solve_26 (by decide) ?_
  exact W.iret (v := (nI 0)) hx hb hr (fun t ht hW => ⟨⟨_, (), rfl, rfl, by rw [ht]; exact hP, hD⟩, hS.F ht⟩) hS.2.2 d_M_solve_27
set_option maxHeartbeats 4000000 in
set_option maxRecDepth 100000 in
theorem j_M_solved_1 (l : Launch) (D : va_G) (am : Nat → Nat) (cm : Nat → ClassId) (P G X : Nat → Nat → Nat) (hP0 : okP P) (hG0 : okG G) (hX0 : okX X) (x : Int32) (hbad : decide (nI 0 ≤ x ∧ x ≤ nI 2) = false) (sz : Nat) : Met l y_M_solved w_M_solved { frames := 1, cells := 0, slots := 0, locals := 24 } (rw_P [.ref (am 0), .int x] D (wM am cm P G X) (tM cm) sz) (rw_Qi (fun (r : Int32) (u : Unit) => r = nI 0) D (wM am cm P G X) (fun u => wM am cm P G (up2 X 0 0 1)) sz) 0 0 (va_A (wM am cm P G X) sz) := by
  refine Met.ofW (cc := b_M_solved) (maxL := 2) (ret := (some .int)) (by decide) rfl ?_
  intro p e s m args below meth c s₁ B hml hv
  obtain ⟨rfl, hsz, hN, hP, hK, hD0⟩ := hv
  have hx := B.exec
  have hb := B.bytes
  have hr := B.returns
  have hts := atoms_spec (ws := w_M_solved) B.pre
  have htb : ∀ w ∈ TBG, w.before [.ref (am 0), .int x].toArray s = true := fun w h => hts w (List.mem_cons_of_mem _ h)
  have hown : s.vm.findClass R_M = some m.cls := findClass_of_methodNamed B.named
  have hlocks := B.notSynchronized
  subst hsz
  have hD := hD0.self (sz := s.heap.size)
  unfold rw_Qi
  generalize hAe : va_A (wM am cm P G X) s.heap.size = A at hD ⊢
  have hA : ∀ q : Nat, s.heap.size ≤ q → A q := fun q h => by rw [← hAe]; exact Or.inr h
  have hS : va_S A s.heap s.heap [] := va_S.rf
  have hl := lv_entry ([.ref (am 0), .int x]) (n := 2) (Nat.le_of_ble_eq_true rfl)
  rw [lg_entry_eq]
  generalize (lg_sl ([.ref (am 0), .int x]) ++ List.replicate (2 - (lg_sl ([.ref (am 0), .int x])).length) Slot.unset).toArray = ls at hl ⊢
  have hl : lv_has ls 2 [(0, .ref (am 0)), (1, .int x)] := hl
  refine nr_start hP hS (fun H locs hP hS => ?_)
  obtain ⟨h00, h01, h02, h03, h04, h05, hp1, hp2, hp3, hp4, hp5, hp6⟩ := id hP0
  obtain ⟨k00, k01, hg1, hg2⟩ := id hG0
  obtain ⟨x00, x01, x02, x03, hx1, hx2, hx3, hx4, hx5, hx6, hx7⟩ := id hX0
  refine lv_aload_n hx hb d_M_solved_0 rfl (lv_at hl 0 rfl) ?_
  refine lv_iload_n hx hb d_M_solved_1 rfl (lv_at hl 1 rfl) ?_
  refine nr_iconst hx hb 0 d_M_solved_2 (by decide) ?_
  refine nr_iconst hx hb 2 d_M_solved_3 (by decide) ?_
  refine nr_calli (va_runS (As := [.int x, .int (nI 0), .int (nI 2)]) (rest := [.ref (am 0)]) ⟨hx, hb, hml, hown, hts⟩ (c_M_in l D x (nI 0) (nI 2)) ⟨callB_of 3 hts (gTB q_M_in) rfl rfl rfl (htb _ q4) (htb _ q666) hd_M_in ⟨Nat.le_of_ble_eq_true rfl, Nat.le_of_ble_eq_true rfl⟩, (htb _ q667)⟩ ⟨ro_blind, ro_pre hN (hP.sub (ws' := []) [] rfl) (hK.sub (tys' := []) [] rfl)⟩ rfl rfl hl.1 rfl (lv_room (Nat.le_of_ble_eq_true rfl)) d_M_solved_4 ⟨Nat.le_of_ble_eq_true rfl, Nat.le_of_ble_eq_true rfl⟩) (fun r_1 hr_1 => ?_)
  subst hr_1
  refine nr_top (y := nI 0) (by rw [hbad]; rfl) ?_
  refine nr_if_ne (tgt := 14) hx hb (by omega) d_M_solved_7 (by decide) (fun c_7 => by exfalso; omega) (fun c_7 => ?_)
  refine nr_iconst hx hb 1 d_M_solved_10 (by decide) ?_
  refine lv_goto (tgt := 15) hx hb d_M_solved_11 (by decide) ?_
  refine nr_iconst hx hb 0 d_M_solved_15 (by decide) ?_
  refine nr_iconst hx hb 0 d_M_solved_16 (by decide) ?_
  refine nr_iconst hx hb 0 d_M_solved_17 (by decide) ?_
  refine nr_callwi (wr := ([] : va_W)) (va_runV (As := [.int (nI 1), .int (nI 0), .int (nI 0), .int (nI 0)]) (rest := []) ⟨hx, hb, hml, hown, hts⟩ (c_M_throwing l D am cm P G X 1 0 0 0 (by decide) (by decide) (by decide) (by decide) H.size) ⟨callB_of 4 hts (gTB q_M_throwing) rfl rfl rfl (htb _ q4) (htb _ q669) hd_M_throwing ⟨Nat.le_of_ble_eq_true rfl, Nat.le_of_ble_eq_true rfl⟩, (htb _ q671), (htb _ sel_M_throwing)⟩ ⟨rw_blind, va_recv (hK.sub (tys' := []) [] rfl) hP (ci := 3) (q0 := 0) rfl rfl, rw_pre hN (hP.sub (ws' := (wM am cm P G X)) [0, 1, 2, 3, 4, 5, 6, 7, 8, 9, 10, 11, 12, 13, 14] rfl) (hK.sub (tys' := (tM cm)) [0, 1, 2, 3, 4, 5, 6, 7, 8, 9, 10, 11, 12, 13] rfl) (hD.sub (ws' := (wM am cm P G X)) [0, 1, 2, 3, 4, 5, 6, 7, 8, 9, 10, 11, 12, 13, 14] (by decide) rfl)⟩ rfl rfl hl.1 rfl (lv_room (Nat.le_of_ble_eq_true rfl)) d_M_solved_18 ⟨Nat.le_of_ble_eq_true rfl, Nat.le_of_ble_eq_true rfl⟩) hP hD hS hA [0, 1, 2, 3, 4, 5, 6, 7, 8, 9, 10, 11, 12, 13, 14] [] rfl rfl (by decide) (by decide) (fun r_2 u_2 H locs hr_2 hP hD hS => ?_)
  subst hr_2
  replace hP := hP.sub (ws' := wM am cm P G (up2 X 0 0 1)) [0, 1, 2, 3, 4, 5, 6, 7, 8, 9, 10, 11, 12, 13, 14] rfl
  replace hD := hD.sub (ws' := wM am cm P G (up2 X 0 0 1)) [0, 1, 2, 3, 4, 5, 6, 7, 8, 9, 10, 11, 12, 13, 14] (by decide) rfl
  refine nr_top (y := nI 1) rfl ?_
  refine nr_if_eq (tgt := 26) hx hb (by omega) d_M_solved_21 (by decide) (fun c_21 => by exfalso; omega) (fun c_21 => ?_)
  refine nr_iconst hx hb 0 d_M_solved_24 (by decide) ?_
  exact W.iret (v := (nI 0)) hx hb hr (fun t ht hW => ⟨⟨_, (), rfl, rfl, by rw [ht]; exact hP, hD⟩, hS.F ht⟩) hS.2.2 d_M_solved_25
set_option maxHeartbeats 4000000 in
set_option maxRecDepth 100000 in
theorem j_M_count_1 (l : Launch) (D : va_G) (am : Nat → Nat) (cm : Nat → ClassId) (P G X : Nat → Nat → Nat) (hP0 : okP P) (hG0 : okG G) (hX0 : okX X) (x : Int32) (hbad : decide (nI 0 ≤ x ∧ x ≤ nI 4) = false) (sz : Nat) : Met l y_M_count w_M_count { frames := 1, cells := 0, slots := 0, locals := 24 } (rw_P [.ref (am 0), .int x] D (wM am cm P G X) (tM cm) sz) (rw_Qi (fun (r : Int32) (u : Unit) => r = nI 0) D (wM am cm P G X) (fun u => wM am cm P G (up2 X 0 0 1)) sz) 0 0 (va_A (wM am cm P G X) sz) := by
  refine Met.ofW (cc := b_M_count) (maxL := 2) (ret := (some .int)) (by decide) rfl ?_
  intro p e s m args below meth c s₁ B hml hv
  obtain ⟨rfl, hsz, hN, hP, hK, hD0⟩ := hv
  have hx := B.exec
  have hb := B.bytes
  have hr := B.returns
  have hts := atoms_spec (ws := w_M_count) B.pre
  have htb : ∀ w ∈ TBG, w.before [.ref (am 0), .int x].toArray s = true := fun w h => hts w (List.mem_cons_of_mem _ h)
  have hown : s.vm.findClass R_M = some m.cls := findClass_of_methodNamed B.named
  have hlocks := B.notSynchronized
  subst hsz
  have hD := hD0.self (sz := s.heap.size)
  unfold rw_Qi
  generalize hAe : va_A (wM am cm P G X) s.heap.size = A at hD ⊢
  have hA : ∀ q : Nat, s.heap.size ≤ q → A q := fun q h => by rw [← hAe]; exact Or.inr h
  have hS : va_S A s.heap s.heap [] := va_S.rf
  have hl := lv_entry ([.ref (am 0), .int x]) (n := 2) (Nat.le_of_ble_eq_true rfl)
  rw [lg_entry_eq]
  generalize (lg_sl ([.ref (am 0), .int x]) ++ List.replicate (2 - (lg_sl ([.ref (am 0), .int x])).length) Slot.unset).toArray = ls at hl ⊢
  have hl : lv_has ls 2 [(0, .ref (am 0)), (1, .int x)] := hl
  refine nr_start hP hS (fun H locs hP hS => ?_)
  obtain ⟨h00, h01, h02, h03, h04, h05, hp1, hp2, hp3, hp4, hp5, hp6⟩ := id hP0
  obtain ⟨k00, k01, hg1, hg2⟩ := id hG0
  obtain ⟨x00, x01, x02, x03, hx1, hx2, hx3, hx4, hx5, hx6, hx7⟩ := id hX0
  refine lv_aload_n hx hb d_M_count_0 rfl (lv_at hl 0 rfl) ?_
  refine lv_iload_n hx hb d_M_count_1 rfl (lv_at hl 1 rfl) ?_
  refine nr_iconst hx hb 0 d_M_count_2 (by decide) ?_
  refine nr_iconst hx hb 4 d_M_count_3 (by decide) ?_
  refine nr_calli (va_runS (As := [.int x, .int (nI 0), .int (nI 4)]) (rest := [.ref (am 0)]) ⟨hx, hb, hml, hown, hts⟩ (c_M_in l D x (nI 0) (nI 4)) ⟨callB_of 3 hts (gTB q_M_in) rfl rfl rfl (htb _ q4) (htb _ q666) hd_M_in ⟨Nat.le_of_ble_eq_true rfl, Nat.le_of_ble_eq_true rfl⟩, (htb _ q667)⟩ ⟨ro_blind, ro_pre hN (hP.sub (ws' := []) [] rfl) (hK.sub (tys' := []) [] rfl)⟩ rfl rfl hl.1 rfl (lv_room (Nat.le_of_ble_eq_true rfl)) d_M_count_4 ⟨Nat.le_of_ble_eq_true rfl, Nat.le_of_ble_eq_true rfl⟩) (fun r_1 hr_1 => ?_)
  subst hr_1
  refine nr_top (y := nI 0) (by rw [hbad]; rfl) ?_
  refine nr_if_ne (tgt := 14) hx hb (by omega) d_M_count_7 (by decide) (fun c_7 => by exfalso; omega) (fun c_7 => ?_)
  refine nr_iconst hx hb 1 d_M_count_10 (by decide) ?_
  refine lv_goto (tgt := 15) hx hb d_M_count_11 (by decide) ?_
  refine nr_iconst hx hb 0 d_M_count_15 (by decide) ?_
  refine nr_iconst hx hb 0 d_M_count_16 (by decide) ?_
  refine nr_iconst hx hb 0 d_M_count_17 (by decide) ?_
  refine nr_callwi (wr := ([] : va_W)) (va_runV (As := [.int (nI 1), .int (nI 0), .int (nI 0), .int (nI 0)]) (rest := []) ⟨hx, hb, hml, hown, hts⟩ (c_M_throwing l D am cm P G X 1 0 0 0 (by decide) (by decide) (by decide) (by decide) H.size) ⟨callB_of 4 hts (gTB q_M_throwing) rfl rfl rfl (htb _ q4) (htb _ q669) hd_M_throwing ⟨Nat.le_of_ble_eq_true rfl, Nat.le_of_ble_eq_true rfl⟩, (htb _ q671), (htb _ sel_M_throwing)⟩ ⟨rw_blind, va_recv (hK.sub (tys' := []) [] rfl) hP (ci := 3) (q0 := 0) rfl rfl, rw_pre hN (hP.sub (ws' := (wM am cm P G X)) [0, 1, 2, 3, 4, 5, 6, 7, 8, 9, 10, 11, 12, 13, 14] rfl) (hK.sub (tys' := (tM cm)) [0, 1, 2, 3, 4, 5, 6, 7, 8, 9, 10, 11, 12, 13] rfl) (hD.sub (ws' := (wM am cm P G X)) [0, 1, 2, 3, 4, 5, 6, 7, 8, 9, 10, 11, 12, 13, 14] (by decide) rfl)⟩ rfl rfl hl.1 rfl (lv_room (Nat.le_of_ble_eq_true rfl)) d_M_count_18 ⟨Nat.le_of_ble_eq_true rfl, Nat.le_of_ble_eq_true rfl⟩) hP hD hS hA [0, 1, 2, 3, 4, 5, 6, 7, 8, 9, 10, 11, 12, 13, 14] [] rfl rfl (by decide) (by decide) (fun r_2 u_2 H locs hr_2 hP hD hS => ?_)
  subst hr_2
  replace hP := hP.sub (ws' := wM am cm P G (up2 X 0 0 1)) [0, 1, 2, 3, 4, 5, 6, 7, 8, 9, 10, 11, 12, 13, 14] rfl
  replace hD := hD.sub (ws' := wM am cm P G (up2 X 0 0 1)) [0, 1, 2, 3, 4, 5, 6, 7, 8, 9, 10, 11, 12, 13, 14] (by decide) rfl
  refine nr_top (y := nI 1) rfl ?_
  refine nr_if_eq (tgt := 26) hx hb (by omega) d_M_count_21 (by decide) (fun c_21 => by exfalso; omega) (fun c_21 => ?_)
  refine nr_iconst hx hb 0 d_M_count_24 (by decide) ?_
  exact W.iret (v := (nI 0)) hx hb hr (fun t ht hW => ⟨⟨_, (), rfl, rfl, by rw [ht]; exact hP, hD⟩, hS.F ht⟩) hS.2.2 d_M_count_25
set_option maxHeartbeats 4000000 in
set_option maxRecDepth 100000 in
theorem j_M_freeze_1a (l : Launch) (D : va_G) (am : Nat → Nat) (cm : Nat → ClassId) (P G X : Nat → Nat → Nat) (hP0 : okP P) (hG0 : okG G) (hX0 : okX X) (x : Int32) (hlt : x < nI (G 0 0)) (sz : Nat) : Met l y_M_freeze w_M_freeze { frames := 1, cells := 0, slots := 0, locals := 24 } (rw_P [.ref (am 0), .int x] D (wM am cm P G X) (tM cm) sz) (rw_Qv (fun u : Unit => True) D (wM am cm P G X) (fun u => wM am cm P G (up2 X 0 0 1)) sz) 0 0 (va_A (wM am cm P G X) sz) := by
  refine Met.ofW (cc := b_M_freeze) (maxL := 2) (ret := none) (by decide) rfl ?_
  intro p e s m args below meth c s₁ B hml hv
  obtain ⟨rfl, hsz, hN, hP, hK, hD0⟩ := hv
  have hx := B.exec
  have hb := B.bytes
  have hr := B.returns
  have hts := atoms_spec (ws := w_M_freeze) B.pre
  have htb : ∀ w ∈ TBG, w.before [.ref (am 0), .int x].toArray s = true := fun w h => hts w (List.mem_cons_of_mem _ h)
  have hown : s.vm.findClass R_M = some m.cls := findClass_of_methodNamed B.named
  have hlocks := B.notSynchronized
  subst hsz
  have hD := hD0.self (sz := s.heap.size)
  unfold rw_Qv
  generalize hAe : va_A (wM am cm P G X) s.heap.size = A at hD ⊢
  have hA : ∀ q : Nat, s.heap.size ≤ q → A q := fun q h => by rw [← hAe]; exact Or.inr h
  have hS : va_S A s.heap s.heap [] := va_S.rf
  have hl := lv_entry ([.ref (am 0), .int x]) (n := 2) (Nat.le_of_ble_eq_true rfl)
  rw [lg_entry_eq]
  generalize (lg_sl ([.ref (am 0), .int x]) ++ List.replicate (2 - (lg_sl ([.ref (am 0), .int x])).length) Slot.unset).toArray = ls at hl ⊢
  have hl : lv_has ls 2 [(0, .ref (am 0)), (1, .int x)] := hl
  refine nr_start hP hS (fun H locs hP hS => ?_)
  obtain ⟨h00, h01, h02, h03, h04, h05, hp1, hp2, hp3, hp4, hp5, hp6⟩ := id hP0
  obtain ⟨k00, k01, hg1, hg2⟩ := id hG0
  obtain ⟨x00, x01, x02, x03, hx1, hx2, hx3, hx4, hx5, hx6, hx7⟩ := id hX0
  refine lv_aload_n hx hb d_M_freeze_0 rfl (lv_at hl 0 rfl) ?_
  refine lv_iload_n hx hb d_M_freeze_1 rfl (lv_at hl 1 rfl) ?_
  refine lv_aload_n hx hb d_M_freeze_2 rfl (lv_at hl 0 rfl) ?_
  refine va_get (D := D) (ci := 3) (v := .int (nI (G 0 0))) (C := R_M) (T := F_M) (N := 26) hx hb htb u_M hown hK hP 0 rfl rfl 3 (by decide) (htb _ q582) (fun _ h9 => h9) rfl d_M_freeze_3 ?_
  refine lv_icmp_lt (tgt := 17) hx hb d_M_freeze_6 (by decide) (fun c_6 => ?_) (fun c_6 => absurd hlt c_6)
  refine nr_iconst hx hb 1 d_M_freeze_17 (by decide) ?_
  refine lv_goto (tgt := 22) hx hb d_M_freeze_18 (by decide) ?_
  refine nr_iconst hx hb 0 d_M_freeze_22 (by decide) ?_
  refine nr_iconst hx hb 0 d_M_freeze_23 (by decide) ?_
  refine nr_iconst hx hb 0 d_M_freeze_24 (by decide) ?_
  refine nr_callwi (wr := ([] : va_W)) (va_runV (As := [.int (nI 1), .int (nI 0), .int (nI 0), .int (nI 0)]) (rest := []) ⟨hx, hb, hml, hown, hts⟩ (c_M_throwing l D am cm P G X 1 0 0 0 (by decide) (by decide) (by decide) (by decide) H.size) ⟨callB_of 4 hts (gTB q_M_throwing) rfl rfl rfl (htb _ q4) (htb _ q669) hd_M_throwing ⟨Nat.le_of_ble_eq_true rfl, Nat.le_of_ble_eq_true rfl⟩, (htb _ q671), (htb _ sel_M_throwing)⟩ ⟨rw_blind, va_recv (hK.sub (tys' := []) [] rfl) hP (ci := 3) (q0 := 0) rfl rfl, rw_pre hN (hP.sub (ws' := (wM am cm P G X)) [0, 1, 2, 3, 4, 5, 6, 7, 8, 9, 10, 11, 12, 13, 14] rfl) (hK.sub (tys' := (tM cm)) [0, 1, 2, 3, 4, 5, 6, 7, 8, 9, 10, 11, 12, 13] rfl) (hD.sub (ws' := (wM am cm P G X)) [0, 1, 2, 3, 4, 5, 6, 7, 8, 9, 10, 11, 12, 13, 14] (by decide) rfl)⟩ rfl rfl hl.1 rfl (lv_room (Nat.le_of_ble_eq_true rfl)) d_M_freeze_25 ⟨Nat.le_of_ble_eq_true rfl, Nat.le_of_ble_eq_true rfl⟩) hP hD hS hA [0, 1, 2, 3, 4, 5, 6, 7, 8, 9, 10, 11, 12, 13, 14] [] rfl rfl (by decide) (by decide) (fun r_1 u_1 H locs hr_1 hP hD hS => ?_)
  subst hr_1
  replace hP := hP.sub (ws' := wM am cm P G (up2 X 0 0 1)) [0, 1, 2, 3, 4, 5, 6, 7, 8, 9, 10, 11, 12, 13, 14] rfl
  replace hD := hD.sub (ws' := wM am cm P G (up2 X 0 0 1)) [0, 1, 2, 3, 4, 5, 6, 7, 8, 9, 10, 11, 12, 13, 14] (by decide) rfl
  refine nr_top (y := nI 1) rfl ?_
  refine nr_if_eq (tgt := 32) hx hb (by omega) d_M_freeze_28 (by decide) (fun c_28 => by exfalso; omega) (fun c_28 => ?_)
  exact W.vret hx hb hr (fun t ht hW => ⟨⟨(), rfl, trivial, by rw [ht]; exact hP, hD⟩, hS.F ht⟩) hS.2.2 d_M_freeze_31
set_option maxHeartbeats 4000000 in
set_option maxRecDepth 100000 in
theorem j_M_freeze_1b (l : Launch) (D : va_G) (am : Nat → Nat) (cm : Nat → ClassId) (P G X : Nat → Nat → Nat) (hP0 : okP P) (hG0 : okG G) (hX0 : okX X) (x : Int32) (hge : ¬ x < nI (G 0 0)) (hgt : ¬ x ≤ nI (P 0 1)) (sz : Nat) : Met l y_M_freeze w_M_freeze { frames := 1, cells := 0, slots := 0, locals := 24 } (rw_P [.ref (am 0), .int x] D (wM am cm P G X) (tM cm) sz) (rw_Qv (fun u : Unit => True) D (wM am cm P G X) (fun u => wM am cm P G (up2 X 0 0 1)) sz) 0 0 (va_A (wM am cm P G X) sz) := by
  refine Met.ofW (cc := b_M_freeze) (maxL := 2) (ret := none) (by decide) rfl ?_
  intro p e s m args below meth c s₁ B hml hv
  obtain ⟨rfl, hsz, hN, hP, hK, hD0⟩ := hv
  have hx := B.exec
  have hb := B.bytes
  have hr := B.returns
  have hts := atoms_spec (ws := w_M_freeze) B.pre
  have htb : ∀ w ∈ TBG, w.before [.ref (am 0), .int x].toArray s = true := fun w h => hts w (List.mem_cons_of_mem _ h)
  have hown : s.vm.findClass R_M = some m.cls := findClass_of_methodNamed B.named
  have hlocks := B.notSynchronized
  subst hsz
  have hD := hD0.self (sz := s.heap.size)
  unfold rw_Qv
  generalize hAe : va_A (wM am cm P G X) s.heap.size = A at hD ⊢
  have hA : ∀ q : Nat, s.heap.size ≤ q → A q := fun q h => by rw [← hAe]; exact Or.inr h
  have hS : va_S A s.heap s.heap [] := va_S.rf
  have hl := lv_entry ([.ref (am 0), .int x]) (n := 2) (Nat.le_of_ble_eq_true rfl)
  rw [lg_entry_eq]
  generalize (lg_sl ([.ref (am 0), .int x]) ++ List.replicate (2 - (lg_sl ([.ref (am 0), .int x])).length) Slot.unset).toArray = ls at hl ⊢
  have hl : lv_has ls 2 [(0, .ref (am 0)), (1, .int x)] := hl
  refine nr_start hP hS (fun H locs hP hS => ?_)
  obtain ⟨h00, h01, h02, h03, h04, h05, hp1, hp2, hp3, hp4, hp5, hp6⟩ := id hP0
  obtain ⟨k00, k01, hg1, hg2⟩ := id hG0
  obtain ⟨x00, x01, x02, x03, hx1, hx2, hx3, hx4, hx5, hx6, hx7⟩ := id hX0
  refine lv_aload_n hx hb d_M_freeze_0 rfl (lv_at hl 0 rfl) ?_
  refine lv_iload_n hx hb d_M_freeze_1 rfl (lv_at hl 1 rfl) ?_
  refine lv_aload_n hx hb d_M_freeze_2 rfl (lv_at hl 0 rfl) ?_
  refine va_get (D := D) (ci := 3) (v := .int (nI (G 0 0))) (C := R_M) (T := F_M) (N := 26) hx hb htb u_M hown hK hP 0 rfl rfl 3 (by decide) (htb _ q582) (fun _ h9 => h9) rfl d_M_freeze_3 ?_
  refine lv_icmp_lt (tgt := 17) hx hb d_M_freeze_6 (by decide) (fun c_6 => absurd c_6 hge) (fun c_6 => ?_)
  refine lv_iload_n hx hb d_M_freeze_9 rfl (lv_at hl 1 rfl) ?_
  refine lv_aload_n hx hb d_M_freeze_10 rfl (lv_at hl 0 rfl) ?_
  refine va_get (D := D) (ci := 3) (v := .int (nI (P 0 1))) (C := R_M) (T := F_M) (N := 26) hx hb htb u_M hown hK hP 0 rfl rfl 2 (by decide) (htb _ q581) (fun _ h9 => h9) rfl d_M_freeze_11 ?_
  refine lv_icmp_le (tgt := 21) hx hb d_M_freeze_14 (by decide) (fun c_14 => absurd c_14 hgt) (fun c_14 => ?_)
  refine nr_iconst hx hb 1 d_M_freeze_17 (by decide) ?_
  refine lv_goto (tgt := 22) hx hb d_M_freeze_18 (by decide) ?_
  refine nr_iconst hx hb 0 d_M_freeze_22 (by decide) ?_
  refine nr_iconst hx hb 0 d_M_freeze_23 (by decide) ?_
  refine nr_iconst hx hb 0 d_M_freeze_24 (by decide) ?_
  refine nr_callwi (wr := ([] : va_W)) (va_runV (As := [.int (nI 1), .int (nI 0), .int (nI 0), .int (nI 0)]) (rest := []) ⟨hx, hb, hml, hown, hts⟩ (c_M_throwing l D am cm P G X 1 0 0 0 (by decide) (by decide) (by decide) (by decide) H.size) ⟨callB_of 4 hts (gTB q_M_throwing) rfl rfl rfl (htb _ q4) (htb _ q669) hd_M_throwing ⟨Nat.le_of_ble_eq_true rfl, Nat.le_of_ble_eq_true rfl⟩, (htb _ q671), (htb _ sel_M_throwing)⟩ ⟨rw_blind, va_recv (hK.sub (tys' := []) [] rfl) hP (ci := 3) (q0 := 0) rfl rfl, rw_pre hN (hP.sub (ws' := (wM am cm P G X)) [0, 1, 2, 3, 4, 5, 6, 7, 8, 9, 10, 11, 12, 13, 14] rfl) (hK.sub (tys' := (tM cm)) [0, 1, 2, 3, 4, 5, 6, 7, 8, 9, 10, 11, 12, 13] rfl) (hD.sub (ws' := (wM am cm P G X)) [0, 1, 2, 3, 4, 5, 6, 7, 8, 9, 10, 11, 12, 13, 14] (by decide) rfl)⟩ rfl rfl hl.1 rfl (lv_room (Nat.le_of_ble_eq_true rfl)) d_M_freeze_25 ⟨Nat.le_of_ble_eq_true rfl, Nat.le_of_ble_eq_true rfl⟩) hP hD hS hA [0, 1, 2, 3, 4, 5, 6, 7, 8, 9, 10, 11, 12, 13, 14] [] rfl rfl (by decide) (by decide) (fun r_1 u_1 H locs hr_1 hP hD hS => ?_)
  subst hr_1
  replace hP := hP.sub (ws' := wM am cm P G (up2 X 0 0 1)) [0, 1, 2, 3, 4, 5, 6, 7, 8, 9, 10, 11, 12, 13, 14] rfl
  replace hD := hD.sub (ws' := wM am cm P G (up2 X 0 0 1)) [0, 1, 2, 3, 4, 5, 6, 7, 8, 9, 10, 11, 12, 13, 14] (by decide) rfl
  refine nr_top (y := nI 1) rfl ?_
  refine nr_if_eq (tgt := 32) hx hb (by omega) d_M_freeze_28 (by decide) (fun c_28 => by exfalso; omega) (fun c_28 => ?_)
  exact W.vret hx hb hr (fun t ht hW => ⟨⟨(), rfl, trivial, by rw [ht]; exact hP, hD⟩, hS.F ht⟩) hS.2.2 d_M_freeze_31

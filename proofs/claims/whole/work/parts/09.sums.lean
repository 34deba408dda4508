set_option maxHeartbeats 4000000 in
set_option maxRecDepth 100000 in
theorem c_P_firstBarFault (l : Launch) (D : va_G) (ad : Nat → Nat) (ca : Nat → ClassId) (P : Nat → Nat → Nat) (a : Nat) (cS : ClassId) (sh : Nat → Nat) (hP0 : okP P) (hsh : ∀ k, sh k ≤ 3) : Met l y_P_firstBarFault w_P_firstBarFault { frames := 2, cells := 0, slots := 0, locals := 43 } (ro_P [.ref (ad 1), .ref a] D (wPS ad ca P a cS sh) (tPS ca cS)) (vp_Si (fun r => r = nI (barFault P sh))) 0 0 (fun _ => False) := by
  refine Met.ofW (cc := b_P_firstBarFault) (maxL := 4) (ret := (some .int)) (by decide) rfl ?_
  intro p e s m args below meth c s₁ B hml hv
  obtain ⟨rfl, hN, hP, hK⟩ := hv
  have hx := B.exec
  have hb := B.bytes
  have hr := B.returns
  have hts := atoms_spec (ws := w_P_firstBarFault) B.pre
  have htb : ∀ w ∈ TBG, w.before [.ref (ad 1), .ref a].toArray s = true := fun w h => hts w (List.mem_cons_of_mem _ h)
  have hown : s.vm.findClass R_P = some m.cls := findClass_of_methodNamed B.named
  have hlocks := B.notSynchronized
  have hl := lv_entry ([.ref (ad 1), .ref a]) (n := 4) (Nat.le_of_ble_eq_true rfl)
  rw [lg_entry_eq]
  generalize (lg_sl ([.ref (ad 1), .ref a]) ++ List.replicate (4 - (lg_sl ([.ref (ad 1), .ref a])).length) Slot.unset).toArray = ls at hl ⊢
  have hl : lv_has ls 4 [(0, .ref (ad 1)), (1, .ref a)] := hl
  obtain ⟨h00, h01, h02, h03, h04, h05, hp1, hp2, hp3, hp4, hp5, hp6⟩ := id hP0
  refine nr_iconst hx hb 0 d_P_firstBarFault_0 (by decide) ?_
  refine lv_istore_n (lv' := [(2, .int (nI 0)), (0, .ref (ad 1)), (1, .ref a)]) hx hb d_P_firstBarFault_1 rfl hl (by decide) rfl (fun ls hl => ?_)
  replace hl : ∃ k p1 : Nat, (p1 + k = P 0 0) ∧ (bf P sh k p1 = barFault P sh) ∧ lv_has ls 4 [(0, .ref (ad 1)), (1, .ref a), (2, .int (nI p1))] := ⟨P 0 0, 0, Nat.zero_add _, rfl, lv_sub hl [1, 2, 0] rfl⟩
  obtain ⟨k, p1, hk, hres, hl⟩ := hl
  induction k generalizing p1 ls with
  | zero =>
    refine lv_iload_n hx hb d_P_firstBarFault_2 rfl (lv_at hl 2 rfl) ?_
    refine lv_aload_n hx hb d_P_firstBarFault_3 rfl (lv_at hl 0 rfl) ?_
    refine va_get (D := D) (ci := 0) (v := .int (nI (P 0 0))) (C := R_P) (T := F_P) (N := 12) hx hb htb u_P hown hK hP 0 rfl rfl 0 (by decide) (htb _ q28) (fun _ h9 => h9) rfl d_P_firstBarFault_4 ?_
    refine nr_icmp_ge (tgt := 59) hx hb (by omega) (by omega) d_P_firstBarFault_7 (by decide) (fun c_7 => ?_) (fun c_7 => by exfalso; omega)
    refine nr_iconst hx hb 0 d_P_firstBarFault_59 (by decide) ?_
    exact W.iret (v := (nI 0)) hx hb hr (fun t ht hW => ⟨_, rfl, by rw [← hres, bf], ht⟩) (fun q h => by cases h) d_P_firstBarFault_60
  | succ k ih_2 =>
    refine lv_iload_n hx hb d_P_firstBarFault_2 rfl (lv_at hl 2 rfl) ?_
    refine lv_aload_n hx hb d_P_firstBarFault_3 rfl (lv_at hl 0 rfl) ?_
    refine va_get (D := D) (ci := 0) (v := .int (nI (P 0 0))) (C := R_P) (T := F_P) (N := 12) hx hb htb u_P hown hK hP 0 rfl rfl 0 (by decide) (htb _ q28) (fun _ h9 => h9) rfl d_P_firstBarFault_4 ?_
    refine nr_icmp_ge (tgt := 59) hx hb (by omega) (by omega) d_P_firstBarFault_7 (by decide) (fun c_7 => by exfalso; omega) (fun c_7 => ?_)
    refine nr_iconst hx hb 0 d_P_firstBarFault_10 (by decide) ?_
    refine lv_istore_n (lv' := [(3, .int (nI 0)), (0, .ref (ad 1)), (1, .ref a), (2, .int (nI p1))]) hx hb d_P_firstBarFault_11 rfl hl (by decide) rfl (fun ls hl => ?_)
    replace hl : ∃ k2 d : Nat, (d + k2 = P 0 1) ∧ ((if bf1 P sh p1 k2 d = 0 then bf P sh k (p1 + 1) else bf1 P sh p1 k2 d) = barFault P sh) ∧ lv_has ls 4 [(0, .ref (ad 1)), (1, .ref a), (2, .int (nI p1)), (3, .int (nI d))] := ⟨P 0 1, 0, Nat.zero_add _, (by rw [← hres, bf]), lv_sub hl [1, 2, 3, 0] rfl⟩
    obtain ⟨k2, d, hkd, hin, hl⟩ := hl
    induction k2 generalizing d ls with
    | zero =>
      refine lv_iload_n hx hb d_P_firstBarFault_12 rfl (lv_at hl 3 rfl) ?_
      refine lv_aload_n hx hb d_P_firstBarFault_13 rfl (lv_at hl 0 rfl) ?_
      refine va_get (D := D) (ci := 0) (v := .int (nI (P 0 1))) (C := R_P) (T := F_P) (N := 12) hx hb htb u_P hown hK hP 0 rfl rfl 1 (by decide) (htb _ q31) (fun _ h9 => h9) rfl d_P_firstBarFault_14 ?_
      refine nr_icmp_ge (tgt := 53) hx hb (by omega) (by omega) d_P_firstBarFault_17 (by decide) (fun c_17 => ?_) (fun c_17 => by exfalso; omega)
      refine nr_iinc (k := 2) (lv' := [(2, .int (nI (p1 + 1))), (0, .ref (ad 1)), (1, .ref a), (3, .int (nI d))]) hx hb d_P_firstBarFault_53 hl rfl (by decide) rfl (fun ls hl => ?_)
      refine lv_goto (tgt := 2) hx hb d_P_firstBarFault_56 (by decide) ?_
      exact ih_2 _ _ (by omega) (by rw [bf1, if_pos rfl] at hin; exact hin) (lv_sub hl [1, 2, 0] rfl)
    | succ k2 ih_12 =>
      refine lv_iload_n hx hb d_P_firstBarFault_12 rfl (lv_at hl 3 rfl) ?_
      refine lv_aload_n hx hb d_P_firstBarFault_13 rfl (lv_at hl 0 rfl) ?_
      refine va_get (D := D) (ci := 0) (v := .int (nI (P 0 1))) (C := R_P) (T := F_P) (N := 12) hx hb htb u_P hown hK hP 0 rfl rfl 1 (by decide) (htb _ q31) (fun _ h9 => h9) rfl d_P_firstBarFault_14 ?_
      refine nr_icmp_ge (tgt := 53) hx hb (by omega) (by omega) d_P_firstBarFault_17 (by decide) (fun c_17 => by exfalso; omega) (fun c_17 => ?_)
      refine lv_aload_n hx hb d_P_firstBarFault_20 rfl (lv_at hl 0 rfl) ?_
      refine va_get (D := D) (ci := 0) (v := .ref (ad 7)) (C := R_P) (T := F_P) (N := 12) hx hb htb u_P hown hK hP 0 rfl rfl 10 (by decide) (htb _ q45) (fun _ h9 => h9) rfl d_P_firstBarFault_21 ?_
      refine lv_iload_n hx hb d_P_firstBarFault_24 rfl (lv_at hl 2 rfl) ?_
      refine lv_iload_n hx hb d_P_firstBarFault_25 rfl (lv_at hl 3 rfl) ?_
      refine lv_aload_n hx hb d_P_firstBarFault_26 rfl (lv_at hl 1 rfl) ?_
      refine lv_iload_n hx hb d_P_firstBarFault_27 rfl (lv_at hl 2 rfl) ?_
      refine lv_iload_n hx hb d_P_firstBarFault_28 rfl (lv_at hl 3 rfl) ?_
      refine nr_calli (va_runSN (As := [.int (nI p1), .int (nI d)]) (rest := [.ref a, .int (nI d), .int (nI p1), .ref (ad 7)]) ⟨hx, hb, hml, hown, hts⟩ (c_R_cell l D p1 d) ⟨va_cnB 2 hts (gTB q_R_cell) rfl rfl rfl (hN.nw q173 rfl) (htb _ q1) hd_R_cell ⟨Nat.le_of_ble_eq_true rfl, Nat.le_of_ble_eq_true rfl⟩, (htb _ q174), trivial⟩ ⟨ro_blind, ro_pre hN (hP.sub (ws' := []) [] rfl) (hK.sub (tys' := []) [] rfl)⟩ rfl rfl hl.1 rfl (lv_room (Nat.le_of_ble_eq_true rfl)) d_P_firstBarFault_29 ⟨Nat.le_of_ble_eq_true rfl, Nat.le_of_ble_eq_true rfl⟩) (fun r_1 hr_1 => ?_)
      subst hr_1
      refine nr_iald hx hb hK hP 7 6 rfl rfl (by omega) (by decide) d_P_firstBarFault_32 ?_
      have hv_2 := hsh (d * 6 + p1)
      refine nr_calli (va_runSN (As := [.int (nI p1), .int (nI d), .int (nI (sh (d * 6 + p1)))]) (rest := [.ref (ad 7)]) ⟨hx, hb, hml, hown, hts⟩ (c_R_choice l D p1 d (sh (d * 6 + p1))) ⟨va_cnB 3 hts (gTB q_R_choice) rfl rfl rfl (hN.nw q205 rfl) (htb _ q1) hd_R_choice ⟨Nat.le_of_ble_eq_true rfl, Nat.le_of_ble_eq_true rfl⟩, (htb _ q206), trivial⟩ ⟨ro_blind, ro_pre hN (hP.sub (ws' := []) [] rfl) (hK.sub (tys' := []) [] rfl)⟩ rfl rfl hl.1 rfl (lv_room (Nat.le_of_ble_eq_true rfl)) d_P_firstBarFault_33 ⟨Nat.le_of_ble_eq_true rfl, Nat.le_of_ble_eq_true rfl⟩) (fun r_3 hr_3 => ?_)
      subst hr_3
      refine nr_zald hx hb hK hP 5 4 rfl rfl (by omega) (by decide) d_P_firstBarFault_36 ?_
      have hv_4 := hp5 ((d * 6 + p1) * 4 + (sh (d * 6 + p1)))
      refine nr_if_eq (tgt := 47) hx hb (by omega) d_P_firstBarFault_37 (by decide) (fun c_37 => ?_) (fun c_37 => ?_)
      · refine nr_iinc (k := 3) (lv' := [(3, .int (nI (d + 1))), (0, .ref (ad 1)), (1, .ref a), (2, .int (nI p1))]) hx hb d_P_firstBarFault_47 hl rfl (by decide) rfl (fun ls hl => ?_)
        refine lv_goto (tgt := 12) hx hb d_P_firstBarFault_50 (by decide) ?_
        exact ih_12 _ _ (by omega) (by rw [bf1, if_pos c_37] at hin; exact hin) (lv_sub hl [1, 2, 3, 0] rfl)
      · refine nr_iconst hx hb 5 d_P_firstBarFault_40 (by decide) ?_
        refine lv_iload_n hx hb d_P_firstBarFault_41 rfl (lv_at hl 2 rfl) ?_
        refine lv_iload_n hx hb d_P_firstBarFault_42 rfl (lv_at hl 3 rfl) ?_
        refine nr_calli (va_runS (As := [.int (nI 5), .int (nI p1), .int (nI d)]) (rest := []) ⟨hx, hb, hml, hown, hts⟩ (c_P_faultNumber l D 5 p1 d) ⟨callB_of 3 hts (gTB q_P_faultNumber) rfl rfl rfl (htb _ q2) (htb _ q179) hd_P_faultNumber ⟨Nat.le_of_ble_eq_true rfl, Nat.le_of_ble_eq_true rfl⟩, (htb _ q180)⟩ ⟨ro_blind, ro_pre hN (hP.sub (ws' := []) [] rfl) (hK.sub (tys' := []) [] rfl)⟩ rfl rfl hl.1 rfl (lv_room (Nat.le_of_ble_eq_true rfl)) d_P_firstBarFault_43 ⟨Nat.le_of_ble_eq_true rfl, Nat.le_of_ble_eq_true rfl⟩) (fun r_5 hr_5 => ?_)
        subst hr_5
        exact W.iret (v := (nI (100 * 5 + 10 * p1 + d))) hx hb hr (fun t ht hW => ⟨_, rfl, by rw [bf1, if_neg c_37] at hin; rw [← hin, if_neg (by omega)], ht⟩) (fun q h => by cases h) d_P_firstBarFault_46
set_option maxHeartbeats 4000000 in
set_option maxRecDepth 100000 in
theorem c_P_firstFault (l : Launch) (D : va_G) (ad : Nat → Nat) (ca : Nat → ClassId) (P : Nat → Nat → Nat) (a : Nat) (cS : ClassId) (sh : Nat → Nat) (hP0 : okP P) (hsh : ∀ k, sh k ≤ 3) : Met l y_P_firstFault w_P_firstFault { frames := 4, cells := 0, slots := 0, locals := 93 } (ro_P [.ref (ad 1), .ref a] D (wPS ad ca P a cS sh) (tPS ca cS)) (vp_Si (fun r => r = nI (firstFault P sh))) 0 0 (fun _ => False) := by
  refine Met.ofW (cc := b_P_firstFault) (maxL := 3) (ret := (some .int)) (by decide) rfl ?_
  intro p e s m args below meth c s₁ B hml hv
  obtain ⟨rfl, hN, hP, hK⟩ := hv
  have hx := B.exec
  have hb := B.bytes
  have hr := B.returns
  have hts := atoms_spec (ws := w_P_firstFault) B.pre
  have htb : ∀ w ∈ TBG, w.before [.ref (ad 1), .ref a].toArray s = true := fun w h => hts w (List.mem_cons_of_mem _ h)
  have hown : s.vm.findClass R_P = some m.cls := findClass_of_methodNamed B.named
  have hlocks := B.notSynchronized
  have hl := lv_entry ([.ref (ad 1), .ref a]) (n := 3) (Nat.le_of_ble_eq_true rfl)
  rw [lg_entry_eq]
  generalize (lg_sl ([.ref (ad 1), .ref a]) ++ List.replicate (3 - (lg_sl ([.ref (ad 1), .ref a])).length) Slot.unset).toArray = ls at hl ⊢
  have hl : lv_has ls 3 [(0, .ref (ad 1)), (1, .ref a)] := hl
  obtain ⟨h00, h01, h02, h03, h04, h05, hp1, hp2, hp3, hp4, hp5, hp6⟩ := id hP0
  refine lv_aload_n hx hb d_P_firstFault_0 rfl (lv_at hl 0 rfl) ?_
  refine lv_aload_n hx hb d_P_firstFault_1 rfl (lv_at hl 1 rfl) ?_
  refine nr_calli (va_runV (As := [.ref a]) (rest := []) ⟨hx, hb, hml, hown, hts⟩ (c_P_firstNeedFault l D ad ca P a cS sh hP0 hsh ) ⟨callB_of 1 hts (gTB q_P_firstNeedFault) rfl rfl rfl (htb _ q2) (htb _ q161) hd_P_firstNeedFault ⟨Nat.le_of_ble_eq_true rfl, Nat.le_of_ble_eq_true rfl⟩, (htb _ q163), (htb _ sel_P_firstNeedFault)⟩ ⟨ro_blind, va_recv (hK.sub (tys' := []) [] rfl) hP (ci := 0) (q0 := 0) rfl rfl, ro_pre hN (hP.sub (ws' := (wPS ad ca P a cS sh)) [0, 1, 2, 3, 4, 5, 6, 7] rfl) (hK.sub (tys' := (tPS ca cS)) [0, 1, 2, 3, 4, 5, 6] rfl)⟩ rfl rfl hl.1 rfl (lv_room (Nat.le_of_ble_eq_true rfl)) d_P_firstFault_2 ⟨Nat.le_of_ble_eq_true rfl, Nat.le_of_ble_eq_true rfl⟩) (fun r_1 hr_1 => ?_)
  subst hr_1
  refine lv_istore_n (lv' := [(2, .int (nI (needFault P sh))), (0, .ref (ad 1)), (1, .ref a)]) hx hb d_P_firstFault_5 rfl hl (by decide) rfl (fun ls hl => ?_)
  refine lv_iload_n hx hb d_P_firstFault_6 rfl (lv_at hl 0 rfl) ?_
  refine nr_if_ne (tgt := 16) hx hb (Nat.lt_of_le_of_lt (needFault_le sh h01) (by decide)) d_P_firstFault_7 (by decide) (fun c_7 => ?_) (fun c_7 => ?_)
  · refine lv_iload_n hx hb d_P_firstFault_16 rfl (lv_at hl 0 rfl) ?_
    refine nr_if_ne (tgt := 26) hx hb (Nat.lt_of_le_of_lt (needFault_le sh h01) (by decide)) d_P_firstFault_17 (by decide) (fun c_17 => ?_) (fun c_17 => by exfalso; omega)
    refine lv_iload_n hx hb d_P_firstFault_26 rfl (lv_at hl 0 rfl) ?_
    refine nr_if_ne (tgt := 36) hx hb (Nat.lt_of_le_of_lt (needFault_le sh h01) (by decide)) d_P_firstFault_27 (by decide) (fun c_27 => ?_) (fun c_27 => by exfalso; omega)
    refine lv_iload_n hx hb d_P_firstFault_36 rfl (lv_at hl 0 rfl) ?_
    refine nr_if_ne (tgt := 48) hx hb (Nat.lt_of_le_of_lt (needFault_le sh h01) (by decide)) d_P_firstFault_37 (by decide) (fun c_37 => ?_) (fun c_37 => by exfalso; omega)
    refine lv_iload_n hx hb d_P_firstFault_48 rfl (lv_at hl 0 rfl) ?_
    exact W.iret (v := (nI (needFault P sh))) hx hb hr (fun t ht hW => ⟨_, rfl, by unfold firstFault; rw [if_pos c_7], ht⟩) (fun q h => by cases h) d_P_firstFault_49
  · refine lv_aload_n hx hb d_P_firstFault_10 rfl (lv_at hl 1 rfl) ?_
    refine lv_aload_n hx hb d_P_firstFault_11 rfl (lv_at hl 2 rfl) ?_
    refine nr_calli (va_runV (As := [.ref a]) (rest := []) ⟨hx, hb, hml, hown, hts⟩ (c_P_firstRestFault l D ad ca P a cS sh hP0 hsh ) ⟨callB_of 1 hts (gTB q_P_firstRestFault) rfl rfl rfl (htb _ q2) (htb _ q182) hd_P_firstRestFault ⟨Nat.le_of_ble_eq_true rfl, Nat.le_of_ble_eq_true rfl⟩, (htb _ q184), (htb _ sel_P_firstRestFault)⟩ ⟨ro_blind, va_recv (hK.sub (tys' := []) [] rfl) hP (ci := 0) (q0 := 0) rfl rfl, ro_pre hN (hP.sub (ws' := (wPS ad ca P a cS sh)) [0, 1, 2, 3, 4, 5, 6, 7] rfl) (hK.sub (tys' := (tPS ca cS)) [0, 1, 2, 3, 4, 5, 6] rfl)⟩ rfl rfl hl.1 rfl (lv_room (Nat.le_of_ble_eq_true rfl)) d_P_firstFault_12 ⟨Nat.le_of_ble_eq_true rfl, Nat.le_of_ble_eq_true rfl⟩) (fun r_2 hr_2 => ?_)
    subst hr_2
    refine lv_istore_n (lv' := [(2, .int (nI (restFault P sh))), (0, .ref (ad 1)), (1, .ref a)]) hx hb d_P_firstFault_15 rfl hl (by decide) rfl (fun ls hl => ?_)
    refine lv_iload_n hx hb d_P_firstFault_16 rfl (lv_at hl 0 rfl) ?_
    refine nr_if_ne (tgt := 26) hx hb (Nat.lt_of_le_of_lt (restFault_le sh h00 h01) (by decide)) d_P_firstFault_17 (by decide) (fun c_17 => ?_) (fun c_17 => ?_)
    · refine lv_iload_n hx hb d_P_firstFault_26 rfl (lv_at hl 0 rfl) ?_
      refine nr_if_ne (tgt := 36) hx hb (Nat.lt_of_le_of_lt (restFault_le sh h00 h01) (by decide)) d_P_firstFault_27 (by decide) (fun c_27 => ?_) (fun c_27 => by exfalso; omega)
      refine lv_iload_n hx hb d_P_firstFault_36 rfl (lv_at hl 0 rfl) ?_
      refine nr_if_ne (tgt := 48) hx hb (Nat.lt_of_le_of_lt (restFault_le sh h00 h01) (by decide)) d_P_firstFault_37 (by decide) (fun c_37 => ?_) (fun c_37 => by exfalso; omega)
      refine lv_iload_n hx hb d_P_firstFault_48 rfl (lv_at hl 0 rfl) ?_
      exact W.iret (v := (nI (restFault P sh))) hx hb hr (fun t ht hW => ⟨_, rfl, by unfold firstFault; rw [if_neg (fun h => h c_7), if_pos c_17], ht⟩) (fun q h => by cases h) d_P_firstFault_49
    · refine lv_aload_n hx hb d_P_firstFault_20 rfl (lv_at hl 1 rfl) ?_
      refine lv_aload_n hx hb d_P_firstFault_21 rfl (lv_at hl 2 rfl) ?_
      refine nr_calli (va_runV (As := [.ref a]) (rest := []) ⟨hx, hb, hml, hown, hts⟩ (c_P_firstMostFault l D ad ca P a cS sh hP0 hsh ) ⟨callB_of 1 hts (gTB q_P_firstMostFault) rfl rfl rfl (htb _ q2) (htb _ q193) hd_P_firstMostFault ⟨Nat.le_of_ble_eq_true rfl, Nat.le_of_ble_eq_true rfl⟩, (htb _ q195), (htb _ sel_P_firstMostFault)⟩ ⟨ro_blind, va_recv (hK.sub (tys' := []) [] rfl) hP (ci := 0) (q0 := 0) rfl rfl, ro_pre hN (hP.sub (ws' := (wPS ad ca P a cS sh)) [0, 1, 2, 3, 4, 5, 6, 7] rfl) (hK.sub (tys' := (tPS ca cS)) [0, 1, 2, 3, 4, 5, 6] rfl)⟩ rfl rfl hl.1 rfl (lv_room (Nat.le_of_ble_eq_true rfl)) d_P_firstFault_22 ⟨Nat.le_of_ble_eq_true rfl, Nat.le_of_ble_eq_true rfl⟩) (fun r_3 hr_3 => ?_)
      subst hr_3
      refine lv_istore_n (lv' := [(2, .int (nI (mostFault P sh))), (0, .ref (ad 1)), (1, .ref a)]) hx hb d_P_firstFault_25 rfl hl (by decide) rfl (fun ls hl => ?_)
      refine lv_iload_n hx hb d_P_firstFault_26 rfl (lv_at hl 0 rfl) ?_
      refine nr_if_ne (tgt := 36) hx hb (Nat.lt_of_le_of_lt (mostFault_le sh h00 h01) (by decide)) d_P_firstFault_27 (by decide) (fun c_27 => ?_) (fun c_27 => ?_)
      · refine lv_iload_n hx hb d_P_firstFault_36 rfl (lv_at hl 0 rfl) ?_
        refine nr_if_ne (tgt := 48) hx hb (Nat.lt_of_le_of_lt (mostFault_le sh h00 h01) (by decide)) d_P_firstFault_37 (by decide) (fun c_37 => ?_) (fun c_37 => by exfalso; omega)
        refine lv_iload_n hx hb d_P_firstFault_48 rfl (lv_at hl 0 rfl) ?_
        exact W.iret (v := (nI (mostFault P sh))) hx hb hr (fun t ht hW => ⟨_, rfl, by unfold firstFault; rw [if_neg (fun h => h c_7), if_neg (fun h => h c_17), if_pos c_27], ht⟩) (fun q h => by cases h) d_P_firstFault_49
      · refine lv_aload_n hx hb d_P_firstFault_30 rfl (lv_at hl 1 rfl) ?_
        refine lv_aload_n hx hb d_P_firstFault_31 rfl (lv_at hl 2 rfl) ?_
        refine nr_calli (va_runV (As := [.ref a]) (rest := []) ⟨hx, hb, hml, hown, hts⟩ (c_P_firstNightsFault l D ad ca P a cS sh hP0 hsh ) ⟨callB_of 1 hts (gTB q_P_firstNightsFault) rfl rfl rfl (htb _ q2) (htb _ q197) hd_P_firstNightsFault ⟨Nat.le_of_ble_eq_true rfl, Nat.le_of_ble_eq_true rfl⟩, (htb _ q199), (htb _ sel_P_firstNightsFault)⟩ ⟨ro_blind, va_recv (hK.sub (tys' := []) [] rfl) hP (ci := 0) (q0 := 0) rfl rfl, ro_pre hN (hP.sub (ws' := (wPS ad ca P a cS sh)) [0, 1, 2, 3, 4, 5, 6, 7] rfl) (hK.sub (tys' := (tPS ca cS)) [0, 1, 2, 3, 4, 5, 6] rfl)⟩ rfl rfl hl.1 rfl (lv_room (Nat.le_of_ble_eq_true rfl)) d_P_firstFault_32 ⟨Nat.le_of_ble_eq_true rfl, Nat.le_of_ble_eq_true rfl⟩) (fun r_4 hr_4 => ?_)
        subst hr_4
        refine lv_istore_n (lv' := [(2, .int (nI (nightsFault P sh))), (0, .ref (ad 1)), (1, .ref a)]) hx hb d_P_firstFault_35 rfl hl (by decide) rfl (fun ls hl => ?_)
        refine lv_iload_n hx hb d_P_firstFault_36 rfl (lv_at hl 0 rfl) ?_
        refine nr_if_ne (tgt := 48) hx hb (Nat.lt_of_le_of_lt (nightsFault_le sh h00 h01) (by decide)) d_P_firstFault_37 (by decide) (fun c_37 => ?_) (fun c_37 => ?_)
        · refine lv_iload_n hx hb d_P_firstFault_48 rfl (lv_at hl 0 rfl) ?_
          exact W.iret (v := (nI (nightsFault P sh))) hx hb hr (fun t ht hW => ⟨_, rfl, by unfold firstFault; rw [if_neg (fun h => h c_7), if_neg (fun h => h c_17), if_neg (fun h => h c_27), if_pos c_37], ht⟩) (fun q h => by cases h) d_P_firstFault_49
        · refine lv_aload_n hx hb d_P_firstFault_40 rfl (lv_at hl 1 rfl) ?_
          refine lv_aload_n hx hb d_P_firstFault_41 rfl (lv_at hl 2 rfl) ?_
          refine nr_calli (va_runV (As := [.ref a]) (rest := []) ⟨hx, hb, hml, hown, hts⟩ (c_P_firstBarFault l D ad ca P a cS sh hP0 hsh ) ⟨callB_of 1 hts (gTB q_P_firstBarFault) rfl rfl rfl (htb _ q2) (htb _ q201) hd_P_firstBarFault ⟨Nat.le_of_ble_eq_true rfl, Nat.le_of_ble_eq_true rfl⟩, (htb _ q203), (htb _ sel_P_firstBarFault)⟩ ⟨ro_blind, va_recv (hK.sub (tys' := []) [] rfl) hP (ci := 0) (q0 := 0) rfl rfl, ro_pre hN (hP.sub (ws' := (wPS ad ca P a cS sh)) [0, 1, 2, 3, 4, 5, 6, 7] rfl) (hK.sub (tys' := (tPS ca cS)) [0, 1, 2, 3, 4, 5, 6] rfl)⟩ rfl rfl hl.1 rfl (lv_room (Nat.le_of_ble_eq_true rfl)) d_P_firstFault_42 ⟨Nat.le_of_ble_eq_true rfl, Nat.le_of_ble_eq_true rfl⟩) (fun r_5 hr_5 => ?_)
          subst hr_5
          refine lv_goto (tgt := 49) hx hb d_P_firstFault_45 (by decide) ?_
          exact W.iret (v := (nI (barFault P sh))) hx hb hr (fun t ht hW => ⟨_, rfl, by unfold firstFault; rw [if_neg (fun h => h c_7), if_neg (fun h => h c_17), if_neg (fun h => h c_27), if_neg (fun h => h c_37)], ht⟩) (fun q h => by cases h) d_P_firstFault_49
set_option maxHeartbeats 4000000 in
set_option maxRecDepth 100000 in
theorem c_P_unmetSum (l : Launch) (D : va_G) (ad : Nat → Nat) (ca : Nat → ClassId) (P : Nat → Nat → Nat) (a : Nat) (cS : ClassId) (sh : Nat → Nat) (hP0 : okP P) (hsh : ∀ k, sh k ≤ 3) : Met l y_P_unmetSum w_P_unmetSum { frames := 2, cells := 0, slots := 0, locals := 43 } (ro_P [.ref (ad 1), .ref a] D (wPS ad ca P a cS sh) (tPS ca cS)) (vp_Si (fun r => r = nI (unmetSum P sh))) 0 0 (fun _ => False) := by
  refine Met.ofW (cc := b_P_unmetSum) (maxL := 5) (ret := (some .int)) (by decide) rfl ?_
  intro p e s m args below meth c s₁ B hml hv
  obtain ⟨rfl, hN, hP, hK⟩ := hv
  have hx := B.exec
  have hb := B.bytes
  have hr := B.returns
  have hts := atoms_spec (ws := w_P_unmetSum) B.pre
  have htb : ∀ w ∈ TBG, w.before [.ref (ad 1), .ref a].toArray s = true := fun w h => hts w (List.mem_cons_of_mem _ h)
  have hown : s.vm.findClass R_P = some m.cls := findClass_of_methodNamed B.named
  have hlocks := B.notSynchronized
  have hl := lv_entry ([.ref (ad 1), .ref a]) (n := 5) (Nat.le_of_ble_eq_true rfl)
  rw [lg_entry_eq]
  generalize (lg_sl ([.ref (ad 1), .ref a]) ++ List.replicate (5 - (lg_sl ([.ref (ad 1), .ref a])).length) Slot.unset).toArray = ls at hl ⊢
  have hl : lv_has ls 5 [(0, .ref (ad 1)), (1, .ref a)] := hl
  obtain ⟨h00, h01, h02, h03, h04, h05, hp1, hp2, hp3, hp4, hp5, hp6⟩ := id hP0
  refine nr_iconst hx hb 0 d_P_unmetSum_0 (by decide) ?_
  refine lv_istore_n (lv' := [(2, .int (nI 0)), (0, .ref (ad 1)), (1, .ref a)]) hx hb d_P_unmetSum_1 rfl hl (by decide) rfl (fun ls hl => ?_)
  refine nr_iconst hx hb 0 d_P_unmetSum_2 (by decide) ?_
  refine lv_istore_n (lv' := [(3, .int (nI 0)), (2, .int (nI 0)), (0, .ref (ad 1)), (1, .ref a)]) hx hb d_P_unmetSum_3 rfl hl (by decide) rfl (fun ls hl => ?_)
  replace hl : ∃ k d acc : Nat, (d + k = P 0 1) ∧ (us P sh k d acc = unmetSum P sh) ∧ lv_has ls 5 [(0, .ref (ad 1)), (1, .ref a), (2, .int (nI acc)), (3, .int (nI d))] := ⟨P 0 1, 0, 0, Nat.zero_add _, rfl, lv_sub hl [2, 3, 1, 0] rfl⟩
  obtain ⟨k, d, acc, hk, hres, hl⟩ := hl
  induction k generalizing d acc ls with
  | zero =>
    refine lv_iload_n hx hb d_P_unmetSum_4 rfl (lv_at hl 3 rfl) ?_
    refine lv_aload_n hx hb d_P_unmetSum_5 rfl (lv_at hl 0 rfl) ?_
    refine va_get (D := D) (ci := 0) (v := .int (nI (P 0 1))) (C := R_P) (T := F_P) (N := 12) hx hb htb u_P hown hK hP 0 rfl rfl 1 (by decide) (htb _ q31) (fun _ h9 => h9) rfl d_P_unmetSum_6 ?_
    refine nr_icmp_ge (tgt := 58) hx hb (by omega) (by omega) d_P_unmetSum_9 (by decide) (fun c_9 => ?_) (fun c_9 => by exfalso; omega)
    refine lv_iload_n hx hb d_P_unmetSum_58 rfl (lv_at hl 2 rfl) ?_
    exact W.iret (v := (nI acc)) hx hb hr (fun t ht hW => ⟨_, rfl, by rw [← hres, us], ht⟩) (fun q h => by cases h) d_P_unmetSum_59
  | succ k ih_4 =>
    refine lv_iload_n hx hb d_P_unmetSum_4 rfl (lv_at hl 3 rfl) ?_
    refine lv_aload_n hx hb d_P_unmetSum_5 rfl (lv_at hl 0 rfl) ?_
    refine va_get (D := D) (ci := 0) (v := .int (nI (P 0 1))) (C := R_P) (T := F_P) (N := 12) hx hb htb u_P hown hK hP 0 rfl rfl 1 (by decide) (htb _ q31) (fun _ h9 => h9) rfl d_P_unmetSum_6 ?_
    refine nr_icmp_ge (tgt := 58) hx hb (by omega) (by omega) d_P_unmetSum_9 (by decide) (fun c_9 => by exfalso; omega) (fun c_9 => ?_)
    refine nr_iconst hx hb 0 d_P_unmetSum_12 (by decide) ?_
    refine lv_istore (lv' := [(4, .int (nI 0)), (0, .ref (ad 1)), (1, .ref a), (2, .int (nI acc)), (3, .int (nI d))]) hx hb d_P_unmetSum_13 hl (by decide) rfl (fun ls hl => ?_)
    replace hl : ∃ k2 p1 acc2 : Nat, (p1 + k2 = P 0 0) ∧ (us P sh k (d + 1) (us1 P sh d k2 p1 acc2) = unmetSum P sh) ∧ lv_has ls 5 [(0, .ref (ad 1)), (1, .ref a), (2, .int (nI acc2)), (3, .int (nI d)), (4, .int (nI p1))] := ⟨P 0 0, 0, acc, Nat.zero_add _, (by rw [← hres, us]), lv_sub hl [1, 2, 3, 4, 0] rfl⟩
    obtain ⟨k2, p1, acc2, hkp, hin, hl⟩ := hl
    induction k2 generalizing p1 acc2 ls with
    | zero =>
      refine lv_iload hx hb d_P_unmetSum_15 (lv_at hl 4 rfl) ?_
      refine lv_aload_n hx hb d_P_unmetSum_17 rfl (lv_at hl 0 rfl) ?_
      refine va_get (D := D) (ci := 0) (v := .int (nI (P 0 0))) (C := R_P) (T := F_P) (N := 12) hx hb htb u_P hown hK hP 0 rfl rfl 0 (by decide) (htb _ q28) (fun _ h9 => h9) rfl d_P_unmetSum_18 ?_
      refine nr_icmp_ge (tgt := 52) hx hb (by omega) (by omega) d_P_unmetSum_21 (by decide) (fun c_21 => ?_) (fun c_21 => by exfalso; omega)
      refine nr_iinc (k := 3) (lv' := [(3, .int (nI (d + 1))), (0, .ref (ad 1)), (1, .ref a), (2, .int (nI acc2)), (4, .int (nI p1))]) hx hb d_P_unmetSum_52 hl rfl (by decide) rfl (fun ls hl => ?_)
      refine lv_goto (tgt := 4) hx hb d_P_unmetSum_55 (by decide) ?_
      exact ih_4 _ _ _ (by omega) (by rw [us1] at hin; exact hin) (lv_sub hl [1, 2, 3, 0] rfl)
    | succ k2 ih_15 =>
      refine lv_iload hx hb d_P_unmetSum_15 (lv_at hl 4 rfl) ?_
      refine lv_aload_n hx hb d_P_unmetSum_17 rfl (lv_at hl 0 rfl) ?_
      refine va_get (D := D) (ci := 0) (v := .int (nI (P 0 0))) (C := R_P) (T := F_P) (N := 12) hx hb htb u_P hown hK hP 0 rfl rfl 0 (by decide) (htb _ q28) (fun _ h9 => h9) rfl d_P_unmetSum_18 ?_
      refine nr_icmp_ge (tgt := 52) hx hb (by omega) (by omega) d_P_unmetSum_21 (by decide) (fun c_21 => by exfalso; omega) (fun c_21 => ?_)
      refine lv_iload_n hx hb d_P_unmetSum_24 rfl (lv_at hl 2 rfl) ?_
      refine lv_aload_n hx hb d_P_unmetSum_25 rfl (lv_at hl 0 rfl) ?_
      refine va_get (D := D) (ci := 0) (v := .ref (ad 8)) (C := R_P) (T := F_P) (N := 12) hx hb htb u_P hown hK hP 0 rfl rfl 11 (by decide) (htb _ q48) (fun _ h9 => h9) rfl d_P_unmetSum_26 ?_
      refine lv_iload hx hb d_P_unmetSum_29 (lv_at hl 4 rfl) ?_
      refine lv_iload_n hx hb d_P_unmetSum_31 rfl (lv_at hl 3 rfl) ?_
      refine lv_aload_n hx hb d_P_unmetSum_32 rfl (lv_at hl 1 rfl) ?_
      refine lv_iload hx hb d_P_unmetSum_33 (lv_at hl 4 rfl) ?_
      refine lv_iload_n hx hb d_P_unmetSum_35 rfl (lv_at hl 3 rfl) ?_
      refine nr_calli (va_runSN (As := [.int (nI p1), .int (nI d)]) (rest := [.ref a, .int (nI d), .int (nI p1), .ref (ad 8), .int (nI acc2)]) ⟨hx, hb, hml, hown, hts⟩ (c_R_cell l D p1 d) ⟨va_cnB 2 hts (gTB q_R_cell) rfl rfl rfl (hN.nw q173 rfl) (htb _ q1) hd_R_cell ⟨Nat.le_of_ble_eq_true rfl, Nat.le_of_ble_eq_true rfl⟩, (htb _ q174), trivial⟩ ⟨ro_blind, ro_pre hN (hP.sub (ws' := []) [] rfl) (hK.sub (tys' := []) [] rfl)⟩ rfl rfl hl.1 rfl (lv_room (Nat.le_of_ble_eq_true rfl)) d_P_unmetSum_36 ⟨Nat.le_of_ble_eq_true rfl, Nat.le_of_ble_eq_true rfl⟩) (fun r_1 hr_1 => ?_)
      subst hr_1
      refine nr_iald hx hb hK hP 7 6 rfl rfl (by omega) (by decide) d_P_unmetSum_39 ?_
      have hv_2 := hsh (d * 6 + p1)
      refine nr_calli (va_runSN (As := [.int (nI p1), .int (nI d), .int (nI (sh (d * 6 + p1)))]) (rest := [.ref (ad 8), .int (nI acc2)]) ⟨hx, hb, hml, hown, hts⟩ (c_R_choice l D p1 d (sh (d * 6 + p1))) ⟨va_cnB 3 hts (gTB q_R_choice) rfl rfl rfl (hN.nw q205 rfl) (htb _ q1) hd_R_choice ⟨Nat.le_of_ble_eq_true rfl, Nat.le_of_ble_eq_true rfl⟩, (htb _ q206), trivial⟩ ⟨ro_blind, ro_pre hN (hP.sub (ws' := []) [] rfl) (hK.sub (tys' := []) [] rfl)⟩ rfl rfl hl.1 rfl (lv_room (Nat.le_of_ble_eq_true rfl)) d_P_unmetSum_40 ⟨Nat.le_of_ble_eq_true rfl, Nat.le_of_ble_eq_true rfl⟩) (fun r_3 hr_3 => ?_)
      subst hr_3
      refine nr_iald hx hb hK hP 6 5 rfl rfl (by omega) (by decide) d_P_unmetSum_43 ?_
      refine nr_iadd hx hb d_P_unmetSum_44 ?_
      refine lv_istore_n (lv' := [(2, .int (nI (acc2 + (P 6 ((d * 6 + p1) * 4 + (sh (d * 6 + p1))))))), (0, .ref (ad 1)), (1, .ref a), (3, .int (nI d)), (4, .int (nI p1))]) hx hb d_P_unmetSum_45 rfl hl (by decide) rfl (fun ls hl => ?_)
      refine nr_iinc (k := 4) (lv' := [(4, .int (nI (p1 + 1))), (2, .int (nI (acc2 + (P 6 ((d * 6 + p1) * 4 + (sh (d * 6 + p1))))))), (0, .ref (ad 1)), (1, .ref a), (3, .int (nI d))]) hx hb d_P_unmetSum_46 hl rfl (by decide) rfl (fun ls hl => ?_)
      refine lv_goto (tgt := 15) hx hb d_P_unmetSum_49 (by decide) ?_
      exact ih_15 _ _ _ (by omega) (by rw [us1] at hin; exact hin) (lv_sub hl [2, 3, 1, 4, 0] rfl)
set_option maxHeartbeats 4000000 in
set_option maxRecDepth 100000 in
theorem c_P_costOfOne (l : Launch) (D : va_G) (ad : Nat → Nat) (ca : Nat → ClassId) (P : Nat → Nat → Nat) (a : Nat) (cS : ClassId) (sh : Nat → Nat) (hP0 : okP P) (hsh : ∀ k, sh k ≤ 3) (p1 : Nat) (hp16 : p1 < 6) : Met l y_P_costOfOne w_P_costOfOne { frames := 1, cells := 0, slots := 0, locals := 21 } (ro_P [.ref (ad 1), .ref a, .int (nI p1)] D (wPS ad ca P a cS sh) (tPS ca cS)) (vp_Si (fun r => r = nI (costOne P sh p1))) 0 0 (fun _ => False) := by
  refine Met.ofW (cc := b_P_costOfOne) (maxL := 5) (ret := (some .int)) (by decide) rfl ?_
  intro p e s m args below meth c s₁ B hml hv
  obtain ⟨rfl, hN, hP, hK⟩ := hv
  have hx := B.exec
  have hb := B.bytes
  have hr := B.returns
  have hts := atoms_spec (ws := w_P_costOfOne) B.pre
  have htb : ∀ w ∈ TBG, w.before [.ref (ad 1), .ref a, .int (nI p1)].toArray s = true := fun w h => hts w (List.mem_cons_of_mem _ h)
  have hown : s.vm.findClass R_P = some m.cls := findClass_of_methodNamed B.named
  have hlocks := B.notSynchronized
  have hl := lv_entry ([.ref (ad 1), .ref a, .int (nI p1)]) (n := 5) (Nat.le_of_ble_eq_true rfl)
  rw [lg_entry_eq]
  generalize (lg_sl ([.ref (ad 1), .ref a, .int (nI p1)]) ++ List.replicate (5 - (lg_sl ([.ref (ad 1), .ref a, .int (nI p1)])).length) Slot.unset).toArray = ls at hl ⊢
  have hl : lv_has ls 5 [(0, .ref (ad 1)), (1, .ref a), (2, .int (nI p1))] := hl
  obtain ⟨h00, h01, h02, h03, h04, h05, hp1, hp2, hp3, hp4, hp5, hp6⟩ := id hP0
  refine nr_iconst hx hb 0 d_P_costOfOne_0 (by decide) ?_
  refine lv_istore_n (lv' := [(3, .int (nI 0)), (0, .ref (ad 1)), (1, .ref a), (2, .int (nI p1))]) hx hb d_P_costOfOne_1 rfl hl (by decide) rfl (fun ls hl => ?_)
  refine nr_iconst hx hb 0 d_P_costOfOne_2 (by decide) ?_
  refine lv_istore (lv' := [(4, .int (nI 0)), (3, .int (nI 0)), (0, .ref (ad 1)), (1, .ref a), (2, .int (nI p1))]) hx hb d_P_costOfOne_3 hl (by decide) rfl (fun ls hl => ?_)
  replace hl : ∃ k d had : Nat, (d + k = P 0 1) ∧ (co sh p1 k d had = co sh p1 (P 0 1) 0 0) ∧ lv_has ls 5 [(0, .ref (ad 1)), (1, .ref a), (2, .int (nI p1)), (3, .int (nI had)), (4, .int (nI d))] := ⟨P 0 1, 0, 0, Nat.zero_add _, rfl, lv_sub hl [2, 3, 4, 1, 0] rfl⟩
  obtain ⟨k, d, had, hk, hc, hl⟩ := hl
  induction k generalizing d had ls with
  | zero =>
    refine lv_iload hx hb d_P_costOfOne_5 (lv_at hl 4 rfl) ?_
    refine lv_aload_n hx hb d_P_costOfOne_7 rfl (lv_at hl 0 rfl) ?_
    refine va_get (D := D) (ci := 0) (v := .int (nI (P 0 1))) (C := R_P) (T := F_P) (N := 12) hx hb htb u_P hown hK hP 0 rfl rfl 1 (by decide) (htb _ q31) (fun _ h9 => h9) rfl d_P_costOfOne_8 ?_
    refine nr_icmp_ge (tgt := 34) hx hb (by omega) (by omega) d_P_costOfOne_11 (by decide) (fun c_11 => ?_) (fun c_11 => by exfalso; omega)
    refine lv_iload_n hx hb d_P_costOfOne_34 rfl (lv_at hl 3 rfl) ?_
    refine nr_bipush hx hb 8 d_P_costOfOne_35 (by decide) ?_
    refine nr_imul hx hb d_P_costOfOne_37 ?_
    refine lv_aload_n hx hb d_P_costOfOne_38 rfl (lv_at hl 0 rfl) ?_
    refine va_get (D := D) (ci := 0) (v := .ref (ad 4)) (C := R_P) (T := F_P) (N := 12) hx hb htb u_P hown hK hP 0 rfl rfl 7 (by decide) (htb _ q42) (fun _ h9 => h9) rfl d_P_costOfOne_39 ?_
    refine lv_iload_n hx hb d_P_costOfOne_42 rfl (lv_at hl 2 rfl) ?_
    refine nr_iald hx hb hK hP 2 1 rfl rfl (by omega) (by decide) d_P_costOfOne_43 ?_
    refine nr_imul hx hb d_P_costOfOne_44 ?_
    exact W.iret (v := (nI ((had * 8) * (P 2 p1)))) hx hb hr (fun t ht hW => ⟨_, rfl, by rw [costOne, ← hc, co], ht⟩) (fun q h => by cases h) d_P_costOfOne_45
  | succ k ih_5 =>
    refine lv_iload hx hb d_P_costOfOne_5 (lv_at hl 4 rfl) ?_
    refine lv_aload_n hx hb d_P_costOfOne_7 rfl (lv_at hl 0 rfl) ?_
    refine va_get (D := D) (ci := 0) (v := .int (nI (P 0 1))) (C := R_P) (T := F_P) (N := 12) hx hb htb u_P hown hK hP 0 rfl rfl 1 (by decide) (htb _ q31) (fun _ h9 => h9) rfl d_P_costOfOne_8 ?_
    refine nr_icmp_ge (tgt := 34) hx hb (by omega) (by omega) d_P_costOfOne_11 (by decide) (fun c_11 => by exfalso; omega) (fun c_11 => ?_)
    refine lv_aload_n hx hb d_P_costOfOne_14 rfl (lv_at hl 1 rfl) ?_
    refine lv_iload_n hx hb d_P_costOfOne_15 rfl (lv_at hl 2 rfl) ?_
    refine lv_iload hx hb d_P_costOfOne_16 (lv_at hl 4 rfl) ?_
    refine nr_calli (va_runSN (As := [.int (nI p1), .int (nI d)]) (rest := [.ref a]) ⟨hx, hb, hml, hown, hts⟩ (c_R_cell l D p1 d) ⟨va_cnB 2 hts (gTB q_R_cell) rfl rfl rfl (hN.nw q173 rfl) (htb _ q1) hd_R_cell ⟨Nat.le_of_ble_eq_true rfl, Nat.le_of_ble_eq_true rfl⟩, (htb _ q174), trivial⟩ ⟨ro_blind, ro_pre hN (hP.sub (ws' := []) [] rfl) (hK.sub (tys' := []) [] rfl)⟩ rfl rfl hl.1 rfl (lv_room (Nat.le_of_ble_eq_true rfl)) d_P_costOfOne_18 ⟨Nat.le_of_ble_eq_true rfl, Nat.le_of_ble_eq_true rfl⟩) (fun r_1 hr_1 => ?_)
    subst hr_1
    refine nr_iald hx hb hK hP 7 6 rfl rfl (by omega) (by decide) d_P_costOfOne_21 ?_
    have hv_2 := hsh (d * 6 + p1)
    refine nr_if_eq (tgt := 28) hx hb (by omega) d_P_costOfOne_22 (by decide) (fun c_22 => ?_) (fun c_22 => ?_)
    · refine nr_iinc (k := 4) (lv' := [(4, .int (nI (d + 1))), (0, .ref (ad 1)), (1, .ref a), (2, .int (nI p1)), (3, .int (nI had))]) hx hb d_P_costOfOne_28 hl rfl (by decide) rfl (fun ls hl => ?_)
      refine lv_goto (tgt := 5) hx hb d_P_costOfOne_31 (by decide) ?_
      exact ih_5 _ _ _ (by omega) (by rw [← hc, co, if_pos c_22]) (lv_sub hl [1, 2, 3, 4, 0] rfl)
    · refine nr_iinc (k := 3) (lv' := [(3, .int (nI (had + 1))), (0, .ref (ad 1)), (1, .ref a), (2, .int (nI p1)), (4, .int (nI d))]) hx hb d_P_costOfOne_25 hl rfl (by decide) rfl (fun ls hl => ?_)
      refine nr_iinc (k := 4) (lv' := [(4, .int (nI (d + 1))), (3, .int (nI (had + 1))), (0, .ref (ad 1)), (1, .ref a), (2, .int (nI p1))]) hx hb d_P_costOfOne_28 hl rfl (by decide) rfl (fun ls hl => ?_)
      refine lv_goto (tgt := 5) hx hb d_P_costOfOne_31 (by decide) ?_
      exact ih_5 _ _ _ (by omega) (by rw [← hc, co, if_neg c_22]) (lv_sub hl [2, 3, 4, 1, 0] rfl)
set_option maxHeartbeats 4000000 in
set_option maxRecDepth 100000 in
theorem c_P_costOfAll (l : Launch) (D : va_G) (ad : Nat → Nat) (ca : Nat → ClassId) (P : Nat → Nat → Nat) (a : Nat) (cS : ClassId) (sh : Nat → Nat) (hP0 : okP P) (hsh : ∀ k, sh k ≤ 3) : Met l y_P_costOfAll w_P_costOfAll { frames := 2, cells := 0, slots := 0, locals := 45 } (ro_P [.ref (ad 1), .ref a] D (wPS ad ca P a cS sh) (tPS ca cS)) (vp_Si (fun r => r = nI (costAll P sh))) 0 0 (fun _ => False) := by
  refine Met.ofW (cc := b_P_costOfAll) (maxL := 4) (ret := (some .int)) (by decide) rfl ?_
  intro p e s m args below meth c s₁ B hml hv
  obtain ⟨rfl, hN, hP, hK⟩ := hv
  have hx := B.exec
  have hb := B.bytes
  have hr := B.returns
  have hts := atoms_spec (ws := w_P_costOfAll) B.pre
  have htb : ∀ w ∈ TBG, w.before [.ref (ad 1), .ref a].toArray s = true := fun w h => hts w (List.mem_cons_of_mem _ h)
  have hown : s.vm.findClass R_P = some m.cls := findClass_of_methodNamed B.named
  have hlocks := B.notSynchronized
  have hl := lv_entry ([.ref (ad 1), .ref a]) (n := 4) (Nat.le_of_ble_eq_true rfl)
  rw [lg_entry_eq]
  generalize (lg_sl ([.ref (ad 1), .ref a]) ++ List.replicate (4 - (lg_sl ([.ref (ad 1), .ref a])).length) Slot.unset).toArray = ls at hl ⊢
  have hl : lv_has ls 4 [(0, .ref (ad 1)), (1, .ref a)] := hl
  obtain ⟨h00, h01, h02, h03, h04, h05, hp1, hp2, hp3, hp4, hp5, hp6⟩ := id hP0
  refine nr_iconst hx hb 0 d_P_costOfAll_0 (by decide) ?_
  refine lv_istore_n (lv' := [(2, .int (nI 0)), (0, .ref (ad 1)), (1, .ref a)]) hx hb d_P_costOfAll_1 rfl hl (by decide) rfl (fun ls hl => ?_)
  refine nr_iconst hx hb 0 d_P_costOfAll_2 (by decide) ?_
  refine lv_istore_n (lv' := [(3, .int (nI 0)), (2, .int (nI 0)), (0, .ref (ad 1)), (1, .ref a)]) hx hb d_P_costOfAll_3 rfl hl (by decide) rfl (fun ls hl => ?_)
  replace hl : ∃ k p1 acc : Nat, (p1 + k = P 0 0) ∧ (ca1 P sh k p1 acc = costAll P sh) ∧ lv_has ls 4 [(0, .ref (ad 1)), (1, .ref a), (2, .int (nI acc)), (3, .int (nI p1))] := ⟨P 0 0, 0, 0, Nat.zero_add _, rfl, lv_sub hl [2, 3, 1, 0] rfl⟩
  obtain ⟨k, p1, acc, hk, hres, hl⟩ := hl
  induction k generalizing p1 acc ls with
  | zero =>
    refine lv_iload_n hx hb d_P_costOfAll_4 rfl (lv_at hl 3 rfl) ?_
    refine lv_aload_n hx hb d_P_costOfAll_5 rfl (lv_at hl 0 rfl) ?_
    refine va_get (D := D) (ci := 0) (v := .int (nI (P 0 0))) (C := R_P) (T := F_P) (N := 12) hx hb htb u_P hown hK hP 0 rfl rfl 0 (by decide) (htb _ q28) (fun _ h9 => h9) rfl d_P_costOfAll_6 ?_
    refine nr_icmp_ge (tgt := 27) hx hb (by omega) (by omega) d_P_costOfAll_9 (by decide) (fun c_9 => ?_) (fun c_9 => by exfalso; omega)
    refine lv_iload_n hx hb d_P_costOfAll_27 rfl (lv_at hl 2 rfl) ?_
    exact W.iret (v := (nI acc)) hx hb hr (fun t ht hW => ⟨_, rfl, by rw [← hres, ca1], ht⟩) (fun q h => by cases h) d_P_costOfAll_28
  | succ k ih_4 =>
    refine lv_iload_n hx hb d_P_costOfAll_4 rfl (lv_at hl 3 rfl) ?_
    refine lv_aload_n hx hb d_P_costOfAll_5 rfl (lv_at hl 0 rfl) ?_
    refine va_get (D := D) (ci := 0) (v := .int (nI (P 0 0))) (C := R_P) (T := F_P) (N := 12) hx hb htb u_P hown hK hP 0 rfl rfl 0 (by decide) (htb _ q28) (fun _ h9 => h9) rfl d_P_costOfAll_6 ?_
    refine nr_icmp_ge (tgt := 27) hx hb (by omega) (by omega) d_P_costOfAll_9 (by decide) (fun c_9 => by exfalso; omega) (fun c_9 => ?_)
    refine lv_iload_n hx hb d_P_costOfAll_12 rfl (lv_at hl 2 rfl) ?_
    refine lv_aload_n hx hb d_P_costOfAll_13 rfl (lv_at hl 0 rfl) ?_
    refine lv_aload_n hx hb d_P_costOfAll_14 rfl (lv_at hl 1 rfl) ?_
    refine lv_iload_n hx hb d_P_costOfAll_15 rfl (lv_at hl 3 rfl) ?_
    refine nr_calli (va_runV (As := [.ref a, .int (nI p1)]) (rest := [.int (nI acc)]) ⟨hx, hb, hml, hown, hts⟩ (c_P_costOfOne l D ad ca P a cS sh hP0 hsh p1 (by omega)) ⟨callB_of 2 hts (gTB q_P_costOfOne) rfl rfl rfl (htb _ q2) (htb _ q225) hd_P_costOfOne ⟨Nat.le_of_ble_eq_true rfl, Nat.le_of_ble_eq_true rfl⟩, (htb _ q227), (htb _ sel_P_costOfOne)⟩ ⟨ro_blind, va_recv (hK.sub (tys' := []) [] rfl) hP (ci := 0) (q0 := 0) rfl rfl, ro_pre hN (hP.sub (ws' := (wPS ad ca P a cS sh)) [0, 1, 2, 3, 4, 5, 6, 7] rfl) (hK.sub (tys' := (tPS ca cS)) [0, 1, 2, 3, 4, 5, 6] rfl)⟩ rfl rfl hl.1 rfl (lv_room (Nat.le_of_ble_eq_true rfl)) d_P_costOfAll_16 ⟨Nat.le_of_ble_eq_true rfl, Nat.le_of_ble_eq_true rfl⟩) (fun r_1 hr_1 => ?_)
    subst hr_1
    refine nr_iadd hx hb d_P_costOfAll_19 ?_
    refine lv_istore_n (lv' := [(2, .int (nI (acc + (costOne P sh p1)))), (0, .ref (ad 1)), (1, .ref a), (3, .int (nI p1))]) hx hb d_P_costOfAll_20 rfl hl (by decide) rfl (fun ls hl => ?_)
    refine nr_iinc (k := 3) (lv' := [(3, .int (nI (p1 + 1))), (2, .int (nI (acc + (costOne P sh p1)))), (0, .ref (ad 1)), (1, .ref a)]) hx hb d_P_costOfAll_21 hl rfl (by decide) rfl (fun ls hl => ?_)
    refine lv_goto (tgt := 4) hx hb d_P_costOfAll_24 (by decide) ?_
    exact ih_4 _ _ _ (by omega) (by rw [← hres, ca1]) (lv_sub hl [2, 3, 1, 0] rfl)

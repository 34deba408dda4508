set_option maxHeartbeats 4000000 in
set_option maxRecDepth 100000 in
theorem c_P_firstRestFault (l : Launch) (D : va_G) (ad : Nat → Nat) (ca : Nat → ClassId) (P : Nat → Nat → Nat) (a : Nat) (cS : ClassId) (sh : Nat → Nat) (hP0 : okP P) (hsh : ∀ k, sh k ≤ 3) : Met l y_P_firstRestFault w_P_firstRestFault { frames := 2, cells := 0, slots := 0, locals := 43 } (ro_P [.ref (ad 1), .ref a] D (wPS ad ca P a cS sh) (tPS ca cS)) (vp_Si (fun r => r = nI (restFault P sh))) 0 0 (fun _ => False) := by
  refine Met.ofW (cc := b_P_firstRestFault) (maxL := 4) (ret := (some .int)) (by decide) rfl ?_
  intro p e s m args below meth c s₁ B hml hv
  obtain ⟨rfl, hN, hP, hK⟩ := hv
  have hx := B.exec
  have hb := B.bytes
  have hr := B.returns
  have hts := atoms_spec (ws := w_P_firstRestFault) B.pre
  have htb : ∀ w ∈ TBG, w.before [.ref (ad 1), .ref a].toArray s = true := fun w h => hts w (List.mem_cons_of_mem _ h)
  have hown : s.vm.findClass R_P = some m.cls := findClass_of_methodNamed B.named
  have hlocks := B.notSynchronized
  have hl := lv_entry ([.ref (ad 1), .ref a]) (n := 4) (Nat.le_of_ble_eq_true rfl)
  rw [lg_entry_eq]
  generalize (lg_sl ([.ref (ad 1), .ref a]) ++ List.replicate (4 - (lg_sl ([.ref (ad 1), .ref a])).length) Slot.unset).toArray = ls at hl ⊢
  have hl : lv_has ls 4 [(0, .ref (ad 1)), (1, .ref a)] := hl
  obtain ⟨h00, h01, h02, h03, h04, h05, hp1, hp2, hp3, hp4, hp5, hp6⟩ := id hP0
  refine nr_iconst hx hb 0 d_P_firstRestFault_0 (by decide) ?_
  refine lv_istore_n (lv' := [(2, .int (nI 0)), (0, .ref (ad 1)), (1, .ref a)]) hx hb d_P_firstRestFault_1 rfl hl (by decide) rfl (fun ls hl => ?_)
  replace hl : ∃ k p1 : Nat, (p1 + k = P 0 0) ∧ (rf P sh k p1 = restFault P sh) ∧ lv_has ls 4 [(0, .ref (ad 1)), (1, .ref a), (2, .int (nI p1))] := ⟨P 0 0, 0, Nat.zero_add _, rfl, lv_sub hl [1, 2, 0] rfl⟩
  obtain ⟨k, p1, hk, hres, hl⟩ := hl
  induction k generalizing p1 ls with
  | zero =>
    refine lv_iload_n hx hb d_P_firstRestFault_2 rfl (lv_at hl 2 rfl) ?_
    refine lv_aload_n hx hb d_P_firstRestFault_3 rfl (lv_at hl 0 rfl) ?_
    refine va_get (D := D) (ci := 0) (v := .int (nI (P 0 0))) (C := R_P) (T := F_P) (N := 12) hx hb htb u_P hown hK hP 0 rfl rfl 0 (by decide) (htb _ q28) (fun _ h9 => h9) rfl d_P_firstRestFault_4 ?_
    refine nr_icmp_ge (tgt := 62) hx hb (by omega) (by omega) d_P_firstRestFault_7 (by decide) (fun c_7 => ?_) (fun c_7 => by exfalso; omega)
    refine nr_iconst hx hb 0 d_P_firstRestFault_62 (by decide) ?_
    exact W.iret (v := (nI 0)) hx hb hr (fun t ht hW => ⟨_, rfl, by rw [← hres, rf], ht⟩) (fun q h => by cases h) d_P_firstRestFault_63
  | succ k ih_2 =>
    refine lv_iload_n hx hb d_P_firstRestFault_2 rfl (lv_at hl 2 rfl) ?_
    refine lv_aload_n hx hb d_P_firstRestFault_3 rfl (lv_at hl 0 rfl) ?_
    refine va_get (D := D) (ci := 0) (v := .int (nI (P 0 0))) (C := R_P) (T := F_P) (N := 12) hx hb htb u_P hown hK hP 0 rfl rfl 0 (by decide) (htb _ q28) (fun _ h9 => h9) rfl d_P_firstRestFault_4 ?_
    refine nr_icmp_ge (tgt := 62) hx hb (by omega) (by omega) d_P_firstRestFault_7 (by decide) (fun c_7 => by exfalso; omega) (fun c_7 => ?_)
    refine nr_iconst hx hb 1 d_P_firstRestFault_10 (by decide) ?_
    refine lv_istore_n (lv' := [(3, .int (nI 1)), (0, .ref (ad 1)), (1, .ref a), (2, .int (nI p1))]) hx hb d_P_firstRestFault_11 rfl hl (by decide) rfl (fun ls hl => ?_)
    replace hl : ∃ k2 d : Nat, (P 0 1 - d = k2) ∧ (1 ≤ d) ∧ (d ≤ 7) ∧ ((if rf1 P sh p1 k2 d = 0 then rf P sh k (p1 + 1) else rf1 P sh p1 k2 d) = restFault P sh) ∧ lv_has ls 4 [(0, .ref (ad 1)), (1, .ref a), (2, .int (nI p1)), (3, .int (nI d))] := ⟨P 0 1 - 1, 1, rfl, Nat.le_refl 1, by decide, (by rw [← hres, rf]), lv_sub hl [1, 2, 3, 0] rfl⟩
    obtain ⟨k2, d, hkd, hd1, hd8, hin, hl⟩ := hl
    induction k2 generalizing d ls with
    | zero =>
      refine lv_iload_n hx hb d_P_firstRestFault_12 rfl (lv_at hl 3 rfl) ?_
      refine lv_aload_n hx hb d_P_firstRestFault_13 rfl (lv_at hl 0 rfl) ?_
      refine va_get (D := D) (ci := 0) (v := .int (nI (P 0 1))) (C := R_P) (T := F_P) (N := 12) hx hb htb u_P hown hK hP 0 rfl rfl 1 (by decide) (htb _ q31) (fun _ h9 => h9) rfl d_P_firstRestFault_14 ?_
      refine nr_icmp_ge (tgt := 56) hx hb (by omega) (by omega) d_P_firstRestFault_17 (by decide) (fun c_17 => ?_) (fun c_17 => by exfalso; omega)
      refine nr_iinc (k := 2) (lv' := [(2, .int (nI (p1 + 1))), (0, .ref (ad 1)), (1, .ref a), (3, .int (nI d))]) hx hb d_P_firstRestFault_56 hl rfl (by decide) rfl (fun ls hl => ?_)
      refine lv_goto (tgt := 2) hx hb d_P_firstRestFault_59 (by decide) ?_
      exact ih_2 _ _ (by omega) (by rw [rf1, if_pos rfl] at hin; exact hin) (lv_sub hl [1, 2, 0] rfl)
    | succ k2 ih_12 =>
      refine lv_iload_n hx hb d_P_firstRestFault_12 rfl (lv_at hl 3 rfl) ?_
      refine lv_aload_n hx hb d_P_firstRestFault_13 rfl (lv_at hl 0 rfl) ?_
      refine va_get (D := D) (ci := 0) (v := .int (nI (P 0 1))) (C := R_P) (T := F_P) (N := 12) hx hb htb u_P hown hK hP 0 rfl rfl 1 (by decide) (htb _ q31) (fun _ h9 => h9) rfl d_P_firstRestFault_14 ?_
      refine nr_icmp_ge (tgt := 56) hx hb (by omega) (by omega) d_P_firstRestFault_17 (by decide) (fun c_17 => by exfalso; omega) (fun c_17 => ?_)
      refine lv_aload_n hx hb d_P_firstRestFault_20 rfl (lv_at hl 0 rfl) ?_
      refine lv_aload_n hx hb d_P_firstRestFault_21 rfl (lv_at hl 1 rfl) ?_
      refine lv_iload_n hx hb d_P_firstRestFault_22 rfl (lv_at hl 2 rfl) ?_
      refine lv_iload_n hx hb d_P_firstRestFault_23 rfl (lv_at hl 3 rfl) ?_
      refine nr_iconst hx hb 1 d_P_firstRestFault_24 (by decide) ?_
      refine nr_isub hx hb (by omega) d_P_firstRestFault_25 ?_
      refine nr_calli (va_runSN (As := [.int (nI p1), .int (nI (d - 1))]) (rest := [.ref a, .ref (ad 1)]) ⟨hx, hb, hml, hown, hts⟩ (c_R_cell l D p1 (d - 1)) ⟨va_cnB 2 hts (gTB q_R_cell) rfl rfl rfl (hN.nw q173 rfl) (htb _ q1) hd_R_cell ⟨Nat.le_of_ble_eq_true rfl, Nat.le_of_ble_eq_true rfl⟩, (htb _ q174), trivial⟩ ⟨ro_blind, ro_pre hN (hP.sub (ws' := []) [] rfl) (hK.sub (tys' := []) [] rfl)⟩ rfl rfl hl.1 rfl (lv_room (Nat.le_of_ble_eq_true rfl)) d_P_firstRestFault_26 ⟨Nat.le_of_ble_eq_true rfl, Nat.le_of_ble_eq_true rfl⟩) (fun r_1 hr_1 => ?_)
      subst hr_1
      refine nr_iald hx hb hK hP 7 6 rfl rfl (by omega) (by decide) d_P_firstRestFault_29 ?_
      have hv_2 := hsh ((d - 1) * 6 + p1)
      refine lv_aload_n hx hb d_P_firstRestFault_30 rfl (lv_at hl 1 rfl) ?_
      refine lv_iload_n hx hb d_P_firstRestFault_31 rfl (lv_at hl 2 rfl) ?_
      refine lv_iload_n hx hb d_P_firstRestFault_32 rfl (lv_at hl 3 rfl) ?_
      refine nr_calli (va_runSN (As := [.int (nI p1), .int (nI d)]) (rest := [.ref a, .int (nI (sh ((d - 1) * 6 + p1))), .ref (ad 1)]) ⟨hx, hb, hml, hown, hts⟩ (c_R_cell l D p1 d) ⟨va_cnB 2 hts (gTB q_R_cell) rfl rfl rfl (hN.nw q173 rfl) (htb _ q1) hd_R_cell ⟨Nat.le_of_ble_eq_true rfl, Nat.le_of_ble_eq_true rfl⟩, (htb _ q174), trivial⟩ ⟨ro_blind, ro_pre hN (hP.sub (ws' := []) [] rfl) (hK.sub (tys' := []) [] rfl)⟩ rfl rfl hl.1 rfl (lv_room (Nat.le_of_ble_eq_true rfl)) d_P_firstRestFault_33 ⟨Nat.le_of_ble_eq_true rfl, Nat.le_of_ble_eq_true rfl⟩) (fun r_3 hr_3 => ?_)
      subst hr_3
      refine nr_iald hx hb hK hP 7 6 rfl rfl (by omega) (by decide) d_P_firstRestFault_36 ?_
      have hv_4 := hsh (d * 6 + p1)
      refine nr_calli (va_runV (As := [.int (nI (sh ((d - 1) * 6 + p1))), .int (nI (sh (d * 6 + p1)))]) (rest := []) ⟨hx, hb, hml, hown, hts⟩ (c_P_breaksRest l D ad ca P a cS sh hP0 hsh (sh ((d - 1) * 6 + p1)) (sh (d * 6 + p1)) (by omega) (by omega)) ⟨callB_of 2 hts (gTB q_P_breaksRest) rfl rfl rfl (htb _ q2) (htb _ q186) hd_P_breaksRest ⟨Nat.le_of_ble_eq_true rfl, Nat.le_of_ble_eq_true rfl⟩, (htb _ q188), (htb _ sel_P_breaksRest)⟩ ⟨ro_blind, va_recv (hK.sub (tys' := []) [] rfl) hP (ci := 0) (q0 := 0) rfl rfl, ro_pre hN (hP.sub (ws' := (wPS ad ca P a cS sh)) [0, 1, 2, 3, 4, 5, 6, 7] rfl) (hK.sub (tys' := (tPS ca cS)) [0, 1, 2, 3, 4, 5, 6] rfl)⟩ rfl rfl hl.1 rfl (lv_room (Nat.le_of_ble_eq_true rfl)) d_P_firstRestFault_37 ⟨Nat.le_of_ble_eq_true rfl, Nat.le_of_ble_eq_true rfl⟩) (fun r_5 hr_5 => ?_)
      subst hr_5
      refine nr_if_eq (tgt := 50) hx hb b01_lt d_P_firstRestFault_40 (by decide) (fun c_40 => ?_) (fun c_40 => ?_)
      · refine nr_iinc (k := 3) (lv' := [(3, .int (nI (d + 1))), (0, .ref (ad 1)), (1, .ref a), (2, .int (nI p1))]) hx hb d_P_firstRestFault_50 hl rfl (by decide) rfl (fun ls hl => ?_)
        refine lv_goto (tgt := 12) hx hb d_P_firstRestFault_53 (by decide) ?_
        exact ih_12 _ _ (by omega) (by omega) (by omega) (by rw [rf1, if_neg (b01_z c_40)] at hin; exact hin) (lv_sub hl [1, 2, 3, 0] rfl)
      · refine nr_iconst hx hb 2 d_P_firstRestFault_43 (by decide) ?_
        refine lv_iload_n hx hb d_P_firstRestFault_44 rfl (lv_at hl 2 rfl) ?_
        refine lv_iload_n hx hb d_P_firstRestFault_45 rfl (lv_at hl 3 rfl) ?_
        refine nr_calli (va_runS (As := [.int (nI 2), .int (nI p1), .int (nI d)]) (rest := []) ⟨hx, hb, hml, hown, hts⟩ (c_P_faultNumber l D 2 p1 d) ⟨callB_of 3 hts (gTB q_P_faultNumber) rfl rfl rfl (htb _ q2) (htb _ q179) hd_P_faultNumber ⟨Nat.le_of_ble_eq_true rfl, Nat.le_of_ble_eq_true rfl⟩, (htb _ q180)⟩ ⟨ro_blind, ro_pre hN (hP.sub (ws' := []) [] rfl) (hK.sub (tys' := []) [] rfl)⟩ rfl rfl hl.1 rfl (lv_room (Nat.le_of_ble_eq_true rfl)) d_P_firstRestFault_46 ⟨Nat.le_of_ble_eq_true rfl, Nat.le_of_ble_eq_true rfl⟩) (fun r_6 hr_6 => ?_)
        subst hr_6
        exact W.iret (v := (nI (100 * 2 + 10 * p1 + d))) hx hb hr (fun t ht hW => ⟨_, rfl, by rw [rf1, if_pos (b01_nz c_40)] at hin; rw [← hin, if_neg (by omega)], ht⟩) (fun q h => by cases h) d_P_firstRestFault_49
set_option maxHeartbeats 4000000 in
set_option maxRecDepth 100000 in
theorem c_P_firstMostFault (l : Launch) (D : va_G) (ad : Nat → Nat) (ca : Nat → ClassId) (P : Nat → Nat → Nat) (a : Nat) (cS : ClassId) (sh : Nat → Nat) (hP0 : okP P) (hsh : ∀ k, sh k ≤ 3) : Met l y_P_firstMostFault w_P_firstMostFault { frames := 1, cells := 0, slots := 0, locals := 22 } (ro_P [.ref (ad 1), .ref a] D (wPS ad ca P a cS sh) (tPS ca cS)) (vp_Si (fun r => r = nI (mostFault P sh))) 0 0 (fun _ => False) := by
  refine Met.ofW (cc := b_P_firstMostFault) (maxL := 6) (ret := (some .int)) (by decide) rfl ?_
  intro p e s m args below meth c s₁ B hml hv
  obtain ⟨rfl, hN, hP, hK⟩ := hv
  have hx := B.exec
  have hb := B.bytes
  have hr := B.returns
  have hts := atoms_spec (ws := w_P_firstMostFault) B.pre
  have htb : ∀ w ∈ TBG, w.before [.ref (ad 1), .ref a].toArray s = true := fun w h => hts w (List.mem_cons_of_mem _ h)
  have hown : s.vm.findClass R_P = some m.cls := findClass_of_methodNamed B.named
  have hlocks := B.notSynchronized
  have hl := lv_entry ([.ref (ad 1), .ref a]) (n := 6) (Nat.le_of_ble_eq_true rfl)
  rw [lg_entry_eq]
  generalize (lg_sl ([.ref (ad 1), .ref a]) ++ List.replicate (6 - (lg_sl ([.ref (ad 1), .ref a])).length) Slot.unset).toArray = ls at hl ⊢
  have hl : lv_has ls 6 [(0, .ref (ad 1)), (1, .ref a)] := hl
  obtain ⟨h00, h01, h02, h03, h04, h05, hp1, hp2, hp3, hp4, hp5, hp6⟩ := id hP0
  refine nr_iconst hx hb 0 d_P_firstMostFault_0 (by decide) ?_
  refine lv_istore_n (lv' := [(2, .int (nI 0)), (0, .ref (ad 1)), (1, .ref a)]) hx hb d_P_firstMostFault_1 rfl hl (by decide) rfl (fun ls hl => ?_)
  replace hl : ∃ k p1 : Nat, (p1 + k = P 0 0) ∧ (mf P sh k p1 = mostFault P sh) ∧ lv_has ls 6 [(0, .ref (ad 1)), (1, .ref a), (2, .int (nI p1))] := ⟨P 0 0, 0, Nat.zero_add _, rfl, lv_sub hl [1, 2, 0] rfl⟩
  obtain ⟨k, p1, hk, hres, hl⟩ := hl
  induction k generalizing p1 ls with
  | zero =>
    refine lv_iload_n hx hb d_P_firstMostFault_2 rfl (lv_at hl 2 rfl) ?_
    refine lv_aload_n hx hb d_P_firstMostFault_3 rfl (lv_at hl 0 rfl) ?_
    refine va_get (D := D) (ci := 0) (v := .int (nI (P 0 0))) (C := R_P) (T := F_P) (N := 12) hx hb htb u_P hown hK hP 0 rfl rfl 0 (by decide) (htb _ q28) (fun _ h9 => h9) rfl d_P_firstMostFault_4 ?_
    refine nr_icmp_ge (tgt := 73) hx hb (by omega) (by omega) d_P_firstMostFault_7 (by decide) (fun c_7 => ?_) (fun c_7 => by exfalso; omega)
    refine nr_iconst hx hb 0 d_P_firstMostFault_73 (by decide) ?_
    exact W.iret (v := (nI 0)) hx hb hr (fun t ht hW => ⟨_, rfl, by rw [← hres, mf], ht⟩) (fun q h => by cases h) d_P_firstMostFault_74
  | succ k ih_2 =>
    refine lv_iload_n hx hb d_P_firstMostFault_2 rfl (lv_at hl 2 rfl) ?_
    refine lv_aload_n hx hb d_P_firstMostFault_3 rfl (lv_at hl 0 rfl) ?_
    refine va_get (D := D) (ci := 0) (v := .int (nI (P 0 0))) (C := R_P) (T := F_P) (N := 12) hx hb htb u_P hown hK hP 0 rfl rfl 0 (by decide) (htb _ q28) (fun _ h9 => h9) rfl d_P_firstMostFault_4 ?_
    refine nr_icmp_ge (tgt := 73) hx hb (by omega) (by omega) d_P_firstMostFault_7 (by decide) (fun c_7 => by exfalso; omega) (fun c_7 => ?_)
    refine nr_iconst hx hb 0 d_P_firstMostFault_10 (by decide) ?_
    refine lv_istore_n (lv' := [(3, .int (nI 0)), (0, .ref (ad 1)), (1, .ref a), (2, .int (nI p1))]) hx hb d_P_firstMostFault_11 rfl hl (by decide) rfl (fun ls hl => ?_)
    refine nr_iconst hx hb 0 d_P_firstMostFault_12 (by decide) ?_
    refine lv_istore (lv' := [(4, .int (nI 0)), (3, .int (nI 0)), (0, .ref (ad 1)), (1, .ref a), (2, .int (nI p1))]) hx hb d_P_firstMostFault_13 hl (by decide) rfl (fun ls hl => ?_)
    refine nr_iconst hx hb 0 d_P_firstMostFault_15 (by decide) ?_
    refine lv_istore (lv' := [(5, .int (nI 0)), (4, .int (nI 0)), (3, .int (nI 0)), (0, .ref (ad 1)), (1, .ref a), (2, .int (nI p1))]) hx hb d_P_firstMostFault_16 hl (by decide) rfl (fun ls hl => ?_)
    replace hl : ∃ k2 d had last : Nat, (d + k2 = P 0 1) ∧ (had ≤ d) ∧ (mh sh p1 k2 d had last = mh sh p1 (P 0 1) 0 0 0) ∧ lv_has ls 6 [(0, .ref (ad 1)), (1, .ref a), (2, .int (nI p1)), (3, .int (nI had)), (4, .int (nI last)), (5, .int (nI d))] := ⟨P 0 1, 0, 0, 0, Nat.zero_add _, Nat.le_refl 0, rfl, lv_sub hl [3, 4, 5, 2, 1, 0] rfl⟩
    obtain ⟨k2, d, had, last, hkd, hhad, hm, hl⟩ := hl
    induction k2 generalizing d had last ls with
    | zero =>
      refine lv_iload hx hb d_P_firstMostFault_18 (lv_at hl 5 rfl) ?_
      refine lv_aload_n hx hb d_P_firstMostFault_20 rfl (lv_at hl 0 rfl) ?_
      refine va_get (D := D) (ci := 0) (v := .int (nI (P 0 1))) (C := R_P) (T := F_P) (N := 12) hx hb htb u_P hown hK hP 0 rfl rfl 1 (by decide) (htb _ q31) (fun _ h9 => h9) rfl d_P_firstMostFault_21 ?_
      refine nr_icmp_ge (tgt := 51) hx hb (by omega) (by omega) d_P_firstMostFault_24 (by decide) (fun c_24 => ?_) (fun c_24 => by exfalso; omega)
      rw [mh] at hm
      have e1 : (mh sh p1 (P 0 1) 0 0 0).1 = had := by rw [← hm]
      have e2 : (mh sh p1 (P 0 1) 0 0 0).2 = last := by rw [← hm]
      refine lv_iload_n hx hb d_P_firstMostFault_51 rfl (lv_at hl 3 rfl) ?_
      refine lv_aload_n hx hb d_P_firstMostFault_52 rfl (lv_at hl 0 rfl) ?_
      refine va_get (D := D) (ci := 0) (v := .int (nI (P 0 3))) (C := R_P) (T := F_P) (N := 12) hx hb htb u_P hown hK hP 0 rfl rfl 3 (by decide) (htb _ q35) (fun _ h9 => h9) rfl d_P_firstMostFault_53 ?_
      refine nr_icmp_le (tgt := 67) hx hb (by omega) (by omega) d_P_firstMostFault_56 (by decide) (fun c_56 => ?_) (fun c_56 => ?_)
      · refine nr_iinc (k := 2) (lv' := [(2, .int (nI (p1 + 1))), (0, .ref (ad 1)), (1, .ref a), (3, .int (nI had)), (4, .int (nI last)), (5, .int (nI d))]) hx hb d_P_firstMostFault_67 hl rfl (by decide) rfl (fun ls hl => ?_)
        refine lv_goto (tgt := 2) hx hb d_P_firstMostFault_70 (by decide) ?_
        exact ih_2 _ _ (by omega) (by rw [← hres, mf, e1, if_pos c_56]) (lv_sub hl [1, 2, 0] rfl)
      · refine nr_iconst hx hb 3 d_P_firstMostFault_59 (by decide) ?_
        refine lv_iload_n hx hb d_P_firstMostFault_60 rfl (lv_at hl 2 rfl) ?_
        refine lv_iload hx hb d_P_firstMostFault_61 (lv_at hl 4 rfl) ?_
        refine nr_calli (va_runS (As := [.int (nI 3), .int (nI p1), .int (nI last)]) (rest := []) ⟨hx, hb, hml, hown, hts⟩ (c_P_faultNumber l D 3 p1 last) ⟨callB_of 3 hts (gTB q_P_faultNumber) rfl rfl rfl (htb _ q2) (htb _ q179) hd_P_faultNumber ⟨Nat.le_of_ble_eq_true rfl, Nat.le_of_ble_eq_true rfl⟩, (htb _ q180)⟩ ⟨ro_blind, ro_pre hN (hP.sub (ws' := []) [] rfl) (hK.sub (tys' := []) [] rfl)⟩ rfl rfl hl.1 rfl (lv_room (Nat.le_of_ble_eq_true rfl)) d_P_firstMostFault_63 ⟨Nat.le_of_ble_eq_true rfl, Nat.le_of_ble_eq_true rfl⟩) (fun r_1 hr_1 => ?_)
        subst hr_1
        exact W.iret (v := (nI (100 * 3 + 10 * p1 + last))) hx hb hr (fun t ht hW => ⟨_, rfl, by rw [← hres, mf, e1, e2, if_neg (by omega)], ht⟩) (fun q h => by cases h) d_P_firstMostFault_66
    | succ k2 ih_18 =>
      refine lv_iload hx hb d_P_firstMostFault_18 (lv_at hl 5 rfl) ?_
      refine lv_aload_n hx hb d_P_firstMostFault_20 rfl (lv_at hl 0 rfl) ?_
      refine va_get (D := D) (ci := 0) (v := .int (nI (P 0 1))) (C := R_P) (T := F_P) (N := 12) hx hb htb u_P hown hK hP 0 rfl rfl 1 (by decide) (htb _ q31) (fun _ h9 => h9) rfl d_P_firstMostFault_21 ?_
      refine nr_icmp_ge (tgt := 51) hx hb (by omega) (by omega) d_P_firstMostFault_24 (by decide) (fun c_24 => by exfalso; omega) (fun c_24 => ?_)
      refine lv_aload_n hx hb d_P_firstMostFault_27 rfl (lv_at hl 1 rfl) ?_
      refine lv_iload_n hx hb d_P_firstMostFault_28 rfl (lv_at hl 2 rfl) ?_
      refine lv_iload hx hb d_P_firstMostFault_29 (lv_at hl 5 rfl) ?_
      refine nr_calli (va_runSN (As := [.int (nI p1), .int (nI d)]) (rest := [.ref a]) ⟨hx, hb, hml, hown, hts⟩ (c_R_cell l D p1 d) ⟨va_cnB 2 hts (gTB q_R_cell) rfl rfl rfl (hN.nw q173 rfl) (htb _ q1) hd_R_cell ⟨Nat.le_of_ble_eq_true rfl, Nat.le_of_ble_eq_true rfl⟩, (htb _ q174), trivial⟩ ⟨ro_blind, ro_pre hN (hP.sub (ws' := []) [] rfl) (hK.sub (tys' := []) [] rfl)⟩ rfl rfl hl.1 rfl (lv_room (Nat.le_of_ble_eq_true rfl)) d_P_firstMostFault_31 ⟨Nat.le_of_ble_eq_true rfl, Nat.le_of_ble_eq_true rfl⟩) (fun r_2 hr_2 => ?_)
      subst hr_2
      refine nr_iald hx hb hK hP 7 6 rfl rfl (by omega) (by decide) d_P_firstMostFault_34 ?_
      have hv_3 := hsh (d * 6 + p1)
      refine nr_if_eq (tgt := 45) hx hb (by omega) d_P_firstMostFault_35 (by decide) (fun c_35 => ?_) (fun c_35 => ?_)
      · refine nr_iinc (k := 5) (lv' := [(5, .int (nI (d + 1))), (0, .ref (ad 1)), (1, .ref a), (2, .int (nI p1)), (3, .int (nI had)), (4, .int (nI last))]) hx hb d_P_firstMostFault_45 hl rfl (by decide) rfl (fun ls hl => ?_)
        refine lv_goto (tgt := 18) hx hb d_P_firstMostFault_48 (by decide) ?_
        exact ih_18 _ _ _ _ (by omega) (by omega) (by rw [← hm, mh, if_pos c_35]) (lv_sub hl [1, 2, 3, 4, 5, 0] rfl)
      · refine nr_iinc (k := 3) (lv' := [(3, .int (nI (had + 1))), (0, .ref (ad 1)), (1, .ref a), (2, .int (nI p1)), (4, .int (nI last)), (5, .int (nI d))]) hx hb d_P_firstMostFault_38 hl rfl (by decide) rfl (fun ls hl => ?_)
        refine lv_iload hx hb d_P_firstMostFault_41 (lv_at hl 5 rfl) ?_
        refine lv_istore (lv' := [(4, .int (nI d)), (3, .int (nI (had + 1))), (0, .ref (ad 1)), (1, .ref a), (2, .int (nI p1)), (5, .int (nI d))]) hx hb d_P_firstMostFault_43 hl (by decide) rfl (fun ls hl => ?_)
        refine nr_iinc (k := 5) (lv' := [(5, .int (nI (d + 1))), (4, .int (nI d)), (3, .int (nI (had + 1))), (0, .ref (ad 1)), (1, .ref a), (2, .int (nI p1))]) hx hb d_P_firstMostFault_45 hl rfl (by decide) rfl (fun ls hl => ?_)
        refine lv_goto (tgt := 18) hx hb d_P_firstMostFault_48 (by decide) ?_
        exact ih_18 _ _ _ _ (by omega) (by omega) (by rw [← hm, mh, if_neg c_35]) (lv_sub hl [3, 4, 5, 2, 1, 0] rfl)
set_option maxHeartbeats 4000000 in
set_option maxRecDepth 100000 in
theorem c_P_firstNightsFault (l : Launch) (D : va_G) (ad : Nat → Nat) (ca : Nat → ClassId) (P : Nat → Nat → Nat) (a : Nat) (cS : ClassId) (sh : Nat → Nat) (hP0 : okP P) (hsh : ∀ k, sh k ≤ 3) : Met l y_P_firstNightsFault w_P_firstNightsFault { frames := 1, cells := 0, slots := 0, locals := 22 } (ro_P [.ref (ad 1), .ref a] D (wPS ad ca P a cS sh) (tPS ca cS)) (vp_Si (fun r => r = nI (nightsFault P sh))) 0 0 (fun _ => False) := by
  refine Met.ofW (cc := b_P_firstNightsFault) (maxL := 5) (ret := (some .int)) (by decide) rfl ?_
  intro p e s m args below meth c s₁ B hml hv
  obtain ⟨rfl, hN, hP, hK⟩ := hv
  have hx := B.exec
  have hb := B.bytes
  have hr := B.returns
  have hts := atoms_spec (ws := w_P_firstNightsFault) B.pre
  have htb : ∀ w ∈ TBG, w.before [.ref (ad 1), .ref a].toArray s = true := fun w h => hts w (List.mem_cons_of_mem _ h)
  have hown : s.vm.findClass R_P = some m.cls := findClass_of_methodNamed B.named
  have hlocks := B.notSynchronized
  have hl := lv_entry ([.ref (ad 1), .ref a]) (n := 5) (Nat.le_of_ble_eq_true rfl)
  rw [lg_entry_eq]
  generalize (lg_sl ([.ref (ad 1), .ref a]) ++ List.replicate (5 - (lg_sl ([.ref (ad 1), .ref a])).length) Slot.unset).toArray = ls at hl ⊢
  have hl : lv_has ls 5 [(0, .ref (ad 1)), (1, .ref a)] := hl
  obtain ⟨h00, h01, h02, h03, h04, h05, hp1, hp2, hp3, hp4, hp5, hp6⟩ := id hP0
  refine nr_iconst hx hb 0 d_P_firstNightsFault_0 (by decide) ?_
  refine lv_istore_n (lv' := [(2, .int (nI 0)), (0, .ref (ad 1)), (1, .ref a)]) hx hb d_P_firstNightsFault_1 rfl hl (by decide) rfl (fun ls hl => ?_)
  replace hl : ∃ k p1 : Nat, (p1 + k = P 0 0) ∧ (gf P sh k p1 = nightsFault P sh) ∧ lv_has ls 5 [(0, .ref (ad 1)), (1, .ref a), (2, .int (nI p1))] := ⟨P 0 0, 0, Nat.zero_add _, rfl, lv_sub hl [1, 2, 0] rfl⟩
  obtain ⟨k, p1, hk, hres, hl⟩ := hl
  induction k generalizing p1 ls with
  | zero =>
    refine lv_iload_n hx hb d_P_firstNightsFault_2 rfl (lv_at hl 2 rfl) ?_
    refine lv_aload_n hx hb d_P_firstNightsFault_3 rfl (lv_at hl 0 rfl) ?_
    refine va_get (D := D) (ci := 0) (v := .int (nI (P 0 0))) (C := R_P) (T := F_P) (N := 12) hx hb htb u_P hown hK hP 0 rfl rfl 0 (by decide) (htb _ q28) (fun _ h9 => h9) rfl d_P_firstNightsFault_4 ?_
    refine nr_icmp_ge (tgt := 72) hx hb (by omega) (by omega) d_P_firstNightsFault_7 (by decide) (fun c_7 => ?_) (fun c_7 => by exfalso; omega)
    refine nr_iconst hx hb 0 d_P_firstNightsFault_72 (by decide) ?_
    exact W.iret (v := (nI 0)) hx hb hr (fun t ht hW => ⟨_, rfl, by rw [← hres, gf], ht⟩) (fun q h => by cases h) d_P_firstNightsFault_73
  | succ k ih_2 =>
    refine lv_iload_n hx hb d_P_firstNightsFault_2 rfl (lv_at hl 2 rfl) ?_
    refine lv_aload_n hx hb d_P_firstNightsFault_3 rfl (lv_at hl 0 rfl) ?_
    refine va_get (D := D) (ci := 0) (v := .int (nI (P 0 0))) (C := R_P) (T := F_P) (N := 12) hx hb htb u_P hown hK hP 0 rfl rfl 0 (by decide) (htb _ q28) (fun _ h9 => h9) rfl d_P_firstNightsFault_4 ?_
    refine nr_icmp_ge (tgt := 72) hx hb (by omega) (by omega) d_P_firstNightsFault_7 (by decide) (fun c_7 => by exfalso; omega) (fun c_7 => ?_)
    refine nr_iconst hx hb 0 d_P_firstNightsFault_10 (by decide) ?_
    refine lv_istore_n (lv' := [(3, .int (nI 0)), (0, .ref (ad 1)), (1, .ref a), (2, .int (nI p1))]) hx hb d_P_firstNightsFault_11 rfl hl (by decide) rfl (fun ls hl => ?_)
    refine nr_iconst hx hb 0 d_P_firstNightsFault_12 (by decide) ?_
    refine lv_istore (lv' := [(4, .int (nI 0)), (3, .int (nI 0)), (0, .ref (ad 1)), (1, .ref a), (2, .int (nI p1))]) hx hb d_P_firstNightsFault_13 hl (by decide) rfl (fun ls hl => ?_)
    replace hl : ∃ k2 d row : Nat, (d + k2 = P 0 1) ∧ (row ≤ d) ∧ ((if gf1 P sh p1 k2 d row = 0 then gf P sh k (p1 + 1) else gf1 P sh p1 k2 d row) = nightsFault P sh) ∧ lv_has ls 5 [(0, .ref (ad 1)), (1, .ref a), (2, .int (nI p1)), (3, .int (nI row)), (4, .int (nI d))] := ⟨P 0 1, 0, 0, Nat.zero_add _, Nat.le_refl 0, (by rw [← hres, gf]), lv_sub hl [2, 3, 4, 1, 0] rfl⟩
    obtain ⟨k2, d, row, hkd, hrow, hin, hl⟩ := hl
    induction k2 generalizing d row ls with
    | zero =>
      refine lv_iload hx hb d_P_firstNightsFault_15 (lv_at hl 4 rfl) ?_
      refine lv_aload_n hx hb d_P_firstNightsFault_17 rfl (lv_at hl 0 rfl) ?_
      refine va_get (D := D) (ci := 0) (v := .int (nI (P 0 1))) (C := R_P) (T := F_P) (N := 12) hx hb htb u_P hown hK hP 0 rfl rfl 1 (by decide) (htb _ q31) (fun _ h9 => h9) rfl d_P_firstNightsFault_18 ?_
      refine nr_icmp_ge (tgt := 66) hx hb (by omega) (by omega) d_P_firstNightsFault_21 (by decide) (fun c_21 => ?_) (fun c_21 => by exfalso; omega)
      refine nr_iinc (k := 2) (lv' := [(2, .int (nI (p1 + 1))), (0, .ref (ad 1)), (1, .ref a), (3, .int (nI row)), (4, .int (nI d))]) hx hb d_P_firstNightsFault_66 hl rfl (by decide) rfl (fun ls hl => ?_)
      refine lv_goto (tgt := 2) hx hb d_P_firstNightsFault_69 (by decide) ?_
      exact ih_2 _ _ (by omega) (by rw [gf1, if_pos rfl] at hin; exact hin) (lv_sub hl [1, 2, 0] rfl)
    | succ k2 ih_15 =>
      refine lv_iload hx hb d_P_firstNightsFault_15 (lv_at hl 4 rfl) ?_
      refine lv_aload_n hx hb d_P_firstNightsFault_17 rfl (lv_at hl 0 rfl) ?_
      refine va_get (D := D) (ci := 0) (v := .int (nI (P 0 1))) (C := R_P) (T := F_P) (N := 12) hx hb htb u_P hown hK hP 0 rfl rfl 1 (by decide) (htb _ q31) (fun _ h9 => h9) rfl d_P_firstNightsFault_18 ?_
      refine nr_icmp_ge (tgt := 66) hx hb (by omega) (by omega) d_P_firstNightsFault_21 (by decide) (fun c_21 => by exfalso; omega) (fun c_21 => ?_)
      refine lv_aload_n hx hb d_P_firstNightsFault_24 rfl (lv_at hl 1 rfl) ?_
      refine lv_iload_n hx hb d_P_firstNightsFault_25 rfl (lv_at hl 2 rfl) ?_
      refine lv_iload hx hb d_P_firstNightsFault_26 (lv_at hl 4 rfl) ?_
      refine nr_calli (va_runSN (As := [.int (nI p1), .int (nI d)]) (rest := [.ref a]) ⟨hx, hb, hml, hown, hts⟩ (c_R_cell l D p1 d) ⟨va_cnB 2 hts (gTB q_R_cell) rfl rfl rfl (hN.nw q173 rfl) (htb _ q1) hd_R_cell ⟨Nat.le_of_ble_eq_true rfl, Nat.le_of_ble_eq_true rfl⟩, (htb _ q174), trivial⟩ ⟨ro_blind, ro_pre hN (hP.sub (ws' := []) [] rfl) (hK.sub (tys' := []) [] rfl)⟩ rfl rfl hl.1 rfl (lv_room (Nat.le_of_ble_eq_true rfl)) d_P_firstNightsFault_28 ⟨Nat.le_of_ble_eq_true rfl, Nat.le_of_ble_eq_true rfl⟩) (fun r_1 hr_1 => ?_)
      subst hr_1
      refine nr_iald hx hb hK hP 7 6 rfl rfl (by omega) (by decide) d_P_firstNightsFault_31 ?_
      have hv_2 := hsh (d * 6 + p1)
      refine nr_iconst hx hb 3 d_P_firstNightsFault_32 (by decide) ?_
      refine nr_icmp_ne (tgt := 42) hx hb (by omega) (by omega) d_P_firstNightsFault_33 (by decide) (fun c_33 => ?_) (fun c_33 => ?_)
      · refine nr_iconst hx hb 0 d_P_firstNightsFault_42 (by decide) ?_
        refine lv_istore_n (lv' := [(3, .int (nI 0)), (0, .ref (ad 1)), (1, .ref a), (2, .int (nI p1)), (4, .int (nI d))]) hx hb d_P_firstNightsFault_43 rfl hl (by decide) rfl (fun ls hl => ?_)
        refine lv_iload_n hx hb d_P_firstNightsFault_44 rfl (lv_at hl 0 rfl) ?_
        refine lv_aload_n hx hb d_P_firstNightsFault_45 rfl (lv_at hl 1 rfl) ?_
        refine va_get (D := D) (ci := 0) (v := .int (nI (P 0 4))) (C := R_P) (T := F_P) (N := 12) hx hb htb u_P hown hK hP 0 rfl rfl 4 (by decide) (htb _ q37) (fun _ h9 => h9) rfl d_P_firstNightsFault_46 ?_
        refine nr_icmp_le (tgt := 60) hx hb (by omega) (by omega) d_P_firstNightsFault_49 (by decide) (fun c_49 => ?_) (fun c_49 => ?_)
        · refine nr_iinc (k := 4) (lv' := [(4, .int (nI (d + 1))), (3, .int (nI 0)), (0, .ref (ad 1)), (1, .ref a), (2, .int (nI p1))]) hx hb d_P_firstNightsFault_60 hl rfl (by decide) rfl (fun ls hl => ?_)
          refine lv_goto (tgt := 15) hx hb d_P_firstNightsFault_63 (by decide) ?_
          exact ih_15 _ _ _ (by omega) (by omega) (by rw [gf1, if_neg c_33, if_pos c_49] at hin; exact hin) (lv_sub hl [2, 3, 4, 1, 0] rfl)
        · refine nr_iconst hx hb 4 d_P_firstNightsFault_52 (by decide) ?_
          refine lv_iload_n hx hb d_P_firstNightsFault_53 rfl (lv_at hl 3 rfl) ?_
          refine lv_iload hx hb d_P_firstNightsFault_54 (lv_at hl 4 rfl) ?_
          refine nr_calli (va_runS (As := [.int (nI 4), .int (nI p1), .int (nI d)]) (rest := []) ⟨hx, hb, hml, hown, hts⟩ (c_P_faultNumber l D 4 p1 d) ⟨callB_of 3 hts (gTB q_P_faultNumber) rfl rfl rfl (htb _ q2) (htb _ q179) hd_P_faultNumber ⟨Nat.le_of_ble_eq_true rfl, Nat.le_of_ble_eq_true rfl⟩, (htb _ q180)⟩ ⟨ro_blind, ro_pre hN (hP.sub (ws' := []) [] rfl) (hK.sub (tys' := []) [] rfl)⟩ rfl rfl hl.1 rfl (lv_room (Nat.le_of_ble_eq_true rfl)) d_P_firstNightsFault_56 ⟨Nat.le_of_ble_eq_true rfl, Nat.le_of_ble_eq_true rfl⟩) (fun r_3 hr_3 => ?_)
          subst hr_3
          exact W.iret (v := (nI (100 * 4 + 10 * p1 + d))) hx hb hr (fun t ht hW => ⟨_, rfl, by rw [gf1, if_neg c_33, if_neg (Nat.not_le.mpr c_49)] at hin; rw [← hin, if_neg (by omega)], ht⟩) (fun q h => by cases h) d_P_firstNightsFault_59
      · refine lv_iload_n hx hb d_P_firstNightsFault_36 rfl (lv_at hl 3 rfl) ?_
        refine nr_iconst hx hb 1 d_P_firstNightsFault_37 (by decide) ?_
        refine nr_iadd hx hb d_P_firstNightsFault_38 ?_
        refine lv_goto (tgt := 43) hx hb d_P_firstNightsFault_39 (by decide) ?_
        refine lv_istore_n (lv' := [(3, .int (nI (row + 1))), (0, .ref (ad 1)), (1, .ref a), (2, .int (nI p1)), (4, .int (nI d))]) hx hb d_P_firstNightsFault_43 rfl hl (by decide) rfl (fun ls hl => ?_)
        refine lv_iload_n hx hb d_P_firstNightsFault_44 rfl (lv_at hl 0 rfl) ?_
        refine lv_aload_n hx hb d_P_firstNightsFault_45 rfl (lv_at hl 1 rfl) ?_
        refine va_get (D := D) (ci := 0) (v := .int (nI (P 0 4))) (C := R_P) (T := F_P) (N := 12) hx hb htb u_P hown hK hP 0 rfl rfl 4 (by decide) (htb _ q37) (fun _ h9 => h9) rfl d_P_firstNightsFault_46 ?_
        refine nr_icmp_le (tgt := 60) hx hb (by omega) (by omega) d_P_firstNightsFault_49 (by decide) (fun c_49 => ?_) (fun c_49 => ?_)
        · refine nr_iinc (k := 4) (lv' := [(4, .int (nI (d + 1))), (3, .int (nI (row + 1))), (0, .ref (ad 1)), (1, .ref a), (2, .int (nI p1))]) hx hb d_P_firstNightsFault_60 hl rfl (by decide) rfl (fun ls hl => ?_)
          refine lv_goto (tgt := 15) hx hb d_P_firstNightsFault_63 (by decide) ?_
          exact ih_15 _ _ _ (by omega) (by omega) (by rw [gf1, if_pos c_33, if_pos c_49] at hin; exact hin) (lv_sub hl [2, 3, 4, 1, 0] rfl)
        · refine nr_iconst hx hb 4 d_P_firstNightsFault_52 (by decide) ?_
          refine lv_iload_n hx hb d_P_firstNightsFault_53 rfl (lv_at hl 3 rfl) ?_
          refine lv_iload hx hb d_P_firstNightsFault_54 (lv_at hl 4 rfl) ?_
          refine nr_calli (va_runS (As := [.int (nI 4), .int (nI p1), .int (nI d)]) (rest := []) ⟨hx, hb, hml, hown, hts⟩ (c_P_faultNumber l D 4 p1 d) ⟨callB_of 3 hts (gTB q_P_faultNumber) rfl rfl rfl (htb _ q2) (htb _ q179) hd_P_faultNumber ⟨Nat.le_of_ble_eq_true rfl, Nat.le_of_ble_eq_true rfl⟩, (htb _ q180)⟩ ⟨ro_blind, ro_pre hN (hP.sub (ws' := []) [] rfl) (hK.sub (tys' := []) [] rfl)⟩ rfl rfl hl.1 rfl (lv_room (Nat.le_of_ble_eq_true rfl)) d_P_firstNightsFault_56 ⟨Nat.le_of_ble_eq_true rfl, Nat.le_of_ble_eq_true rfl⟩) (fun r_4 hr_4 => ?_)
          subst hr_4
          exact W.iret (v := (nI (100 * 4 + 10 * p1 + d))) hx hb hr (fun t ht hW => ⟨_, rfl, by rw [gf1, if_pos c_33, if_neg (Nat.not_le.mpr c_49)] at hin; rw [← hin, if_neg (by omega)], ht⟩) (fun q h => by cases h) d_P_firstNightsFault_59

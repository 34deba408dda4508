set_option maxHeartbeats 4000000 in
set_option maxRecDepth 100000 in
theorem c_P_meetsNeed (l : Launch) (D : va_G) (ad : Nat → Nat) (ca : Nat → ClassId) (P : Nat → Nat → Nat) (a : Nat) (cS : ClassId) (sh : Nat → Nat) (hP0 : okP P) (hsh : ∀ k, sh k ≤ 3) (d sf : Nat) (hd : d < 7) (hs : sf < 4) : Met l y_P_meetsNeed w_P_meetsNeed { frames := 1, cells := 0, slots := 0, locals := 21 } (ro_P [.ref (ad 1), .ref a, .int (nI d), .int (nI sf)] D (wPS ad ca P a cS sh) (tPS ca cS)) (vp_Si (fun r => r = nI (if meets P sh d sf = true then 1 else 0))) 0 0 (fun _ => False) := by
  refine Met.ofW (cc := b_P_meetsNeed) (maxL := 7) (ret := (some .boolean)) (by decide) rfl ?_
  intro p e s m args below meth c s₁ B hml hv
  obtain ⟨rfl, hN, hP, hK⟩ := hv
  have hx := B.exec
  have hb := B.bytes
  have hr := B.returns
  have hts := atoms_spec (ws := w_P_meetsNeed) B.pre
  have htb : ∀ w ∈ TBG, w.before [.ref (ad 1), .ref a, .int (nI d), .int (nI sf)].toArray s = true := fun w h => hts w (List.mem_cons_of_mem _ h)
  have hown : s.vm.findClass R_P = some m.cls := findClass_of_methodNamed B.named
  have hlocks := B.notSynchronized
  have hl := lv_entry ([.ref (ad 1), .ref a, .int (nI d), .int (nI sf)]) (n := 7) (Nat.le_of_ble_eq_true rfl)
  rw [lg_entry_eq]
  generalize (lg_sl ([.ref (ad 1), .ref a, .int (nI d), .int (nI sf)]) ++ List.replicate (7 - (lg_sl ([.ref (ad 1), .ref a, .int (nI d), .int (nI sf)])).length) Slot.unset).toArray = ls at hl ⊢
  have hl : lv_has ls 7 [(0, .ref (ad 1)), (1, .ref a), (2, .int (nI d)), (3, .int (nI sf))] := hl
  obtain ⟨h00, h01, h02, h03, h04, h05, hp1, hp2, hp3, hp4, hp5, hp6⟩ := id hP0
  refine nr_iconst hx hb 0 d_P_meetsNeed_0 (by decide) ?_
  refine lv_istore (lv' := [(4, .int (nI 0)), (0, .ref (ad 1)), (1, .ref a), (2, .int (nI d)), (3, .int (nI sf))]) hx hb d_P_meetsNeed_1 hl (by decide) rfl (fun ls hl => ?_)
  refine nr_iconst hx hb 0 d_P_meetsNeed_3 (by decide) ?_
  refine lv_istore (lv' := [(5, .int (nI 0)), (4, .int (nI 0)), (0, .ref (ad 1)), (1, .ref a), (2, .int (nI d)), (3, .int (nI sf))]) hx hb d_P_meetsNeed_4 hl (by decide) rfl (fun ls hl => ?_)
  refine nr_iconst hx hb 0 d_P_meetsNeed_6 (by decide) ?_
  refine lv_istore (lv' := [(6, .int (nI 0)), (5, .int (nI 0)), (4, .int (nI 0)), (0, .ref (ad 1)), (1, .ref a), (2, .int (nI d)), (3, .int (nI sf))]) hx hb d_P_meetsNeed_7 hl (by decide) rfl (fun ls hl => ?_)
  replace hl : ∃ k i th sk : Nat, (i + k = P 0 0) ∧ (th ≤ i) ∧ (sk < 16) ∧ (mt P sh d sf k i th sk = mt P sh d sf (P 0 0) 0 0 0) ∧ lv_has ls 7 [(0, .ref (ad 1)), (1, .ref a), (2, .int (nI d)), (3, .int (nI sf)), (4, .int (nI th)), (5, .int (nI sk)), (6, .int (nI i))] := ⟨P 0 0, 0, 0, 0, Nat.zero_add _, Nat.le_refl 0, by decide, rfl, lv_sub hl [3, 4, 5, 6, 2, 1, 0] rfl⟩
  obtain ⟨k, i, th, sk, hk, hth, hsk, hres, hl⟩ := hl
  induction k generalizing i th sk ls with
  | zero =>
    refine lv_iload hx hb d_P_meetsNeed_9 (lv_at hl 6 rfl) ?_
    refine lv_aload_n hx hb d_P_meetsNeed_11 rfl (lv_at hl 0 rfl) ?_
    refine va_get (D := D) (ci := 0) (v := .int (nI (P 0 0))) (C := R_P) (T := F_P) (N := 12) hx hb htb u_P hown hK hP 0 rfl rfl 0 (by decide) (htb _ q28) (fun _ h9 => h9) rfl d_P_meetsNeed_12 ?_
    refine nr_icmp_ge (tgt := 51) hx hb (by omega) (by omega) d_P_meetsNeed_15 (by decide) (fun c_15 => ?_) (fun c_15 => by exfalso; omega)
    rw [mt] at hres
    have hr1 : (mt P sh d sf (P 0 0) 0 0 0).1 = th := by rw [← hres]
    have hr2 : (mt P sh d sf (P 0 0) 0 0 0).2 = sk := by rw [← hres]
    refine lv_aload_n hx hb d_P_meetsNeed_51 rfl (lv_at hl 0 rfl) ?_
    refine va_get (D := D) (ci := 0) (v := .ref (ad 6)) (C := R_P) (T := F_P) (N := 12) hx hb htb u_P hown hK hP 0 rfl rfl 9 (by decide) (htb _ q44) (fun _ h9 => h9) rfl d_P_meetsNeed_52 ?_
    refine lv_iload_n hx hb d_P_meetsNeed_55 rfl (lv_at hl 2 rfl) ?_
    refine lv_iload_n hx hb d_P_meetsNeed_56 rfl (lv_at hl 3 rfl) ?_
    refine nr_calli (va_runSN (As := [.int (nI d), .int (nI sf)]) (rest := [.ref (ad 6)]) ⟨hx, hb, hml, hown, hts⟩ (c_R_slot l D d sf) ⟨va_cnB 2 hts (gTB q_R_slot) rfl rfl rfl (hN.nw q176 rfl) (htb _ q1) hd_R_slot ⟨Nat.le_of_ble_eq_true rfl, Nat.le_of_ble_eq_true rfl⟩, (htb _ q177), trivial⟩ ⟨ro_blind, ro_pre hN (hP.sub (ws' := []) [] rfl) (hK.sub (tys' := []) [] rfl)⟩ rfl rfl hl.1 rfl (lv_room (Nat.le_of_ble_eq_true rfl)) d_P_meetsNeed_57 ⟨Nat.le_of_ble_eq_true rfl, Nat.le_of_ble_eq_true rfl⟩) (fun r_1 hr_1 => ?_)
    subst hr_1
    refine nr_iald hx hb hK hP 4 3 rfl rfl (by omega) (by decide) d_P_meetsNeed_60 ?_
    have hv_2 := hp4 (d * 4 + sf)
    refine lv_istore (lv' := [(6, .int (nI (P 4 (d * 4 + sf)))), (0, .ref (ad 1)), (1, .ref a), (2, .int (nI d)), (3, .int (nI sf)), (4, .int (nI th)), (5, .int (nI sk))]) hx hb d_P_meetsNeed_61 hl (by decide) rfl (fun ls hl => ?_)
    refine lv_iload hx hb d_P_meetsNeed_63 (lv_at hl 5 rfl) ?_
    refine lv_aload_n hx hb d_P_meetsNeed_65 rfl (lv_at hl 1 rfl) ?_
    refine va_get (D := D) (ci := 0) (v := .ref (ad 5)) (C := R_P) (T := F_P) (N := 12) hx hb htb u_P hown hK hP 0 rfl rfl 8 (by decide) (htb _ q43) (fun _ h9 => h9) rfl d_P_meetsNeed_66 ?_
    refine lv_iload_n hx hb d_P_meetsNeed_69 rfl (lv_at hl 3 rfl) ?_
    refine lv_iload_n hx hb d_P_meetsNeed_70 rfl (lv_at hl 4 rfl) ?_
    refine nr_calli (va_runSN (As := [.int (nI d), .int (nI sf)]) (rest := [.ref (ad 5), .int (nI th)]) ⟨hx, hb, hml, hown, hts⟩ (c_R_slot l D d sf) ⟨va_cnB 2 hts (gTB q_R_slot) rfl rfl rfl (hN.nw q176 rfl) (htb _ q1) hd_R_slot ⟨Nat.le_of_ble_eq_true rfl, Nat.le_of_ble_eq_true rfl⟩, (htb _ q177), trivial⟩ ⟨ro_blind, ro_pre hN (hP.sub (ws' := []) [] rfl) (hK.sub (tys' := []) [] rfl)⟩ rfl rfl hl.1 rfl (lv_room (Nat.le_of_ble_eq_true rfl)) d_P_meetsNeed_71 ⟨Nat.le_of_ble_eq_true rfl, Nat.le_of_ble_eq_true rfl⟩) (fun r_3 hr_3 => ?_)
    subst hr_3
    refine nr_iald hx hb hK hP 3 2 rfl rfl (by omega) (by decide) d_P_meetsNeed_74 ?_
    have hv_4 := hp3 (d * 4 + sf)
    refine nr_icmp_lt (tgt := 92) hx hb (by omega) (by omega) d_P_meetsNeed_75 (by decide) (fun c_75 => ?_) (fun c_75 => ?_)
    · refine nr_iconst hx hb 0 d_P_meetsNeed_92 (by decide) ?_
      exact W.zret (v := (nI 0)) hx hb hr rfl (fun t ht hW => ⟨_, rfl, by unfold meets; rw [hr1, hr2, if_neg (by simp; omega)], ht⟩) (fun q h => by cases h) d_P_meetsNeed_93
    · refine lv_iload hx hb d_P_meetsNeed_78 (lv_at hl 6 rfl) ?_
      refine lv_iload hx hb d_P_meetsNeed_80 (lv_at hl 0 rfl) ?_
      refine nr_iand hx hb d_P_meetsNeed_82 ?_
      refine lv_iload hx hb d_P_meetsNeed_83 (lv_at hl 0 rfl) ?_
      refine nr_icmp_ne (tgt := 92) hx hb (Nat.lt_of_le_of_lt Nat.and_le_left (by omega)) (by omega) d_P_meetsNeed_85 (by decide) (fun c_85 => ?_) (fun c_85 => ?_)
      · refine nr_iconst hx hb 0 d_P_meetsNeed_92 (by decide) ?_
        exact W.zret (v := (nI 0)) hx hb hr rfl (fun t ht hW => ⟨_, rfl, by unfold meets; rw [hr1, hr2, if_neg (by simp; omega)], ht⟩) (fun q h => by cases h) d_P_meetsNeed_93
      · refine nr_iconst hx hb 1 d_P_meetsNeed_88 (by decide) ?_
        refine lv_goto (tgt := 93) hx hb d_P_meetsNeed_89 (by decide) ?_
        exact W.zret (v := (nI 1)) hx hb hr rfl (fun t ht hW => ⟨_, rfl, by unfold meets; rw [hr1, hr2, if_pos (by simp; omega)], ht⟩) (fun q h => by cases h) d_P_meetsNeed_93
  | succ k ih_9 =>
    refine lv_iload hx hb d_P_meetsNeed_9 (lv_at hl 6 rfl) ?_
    refine lv_aload_n hx hb d_P_meetsNeed_11 rfl (lv_at hl 0 rfl) ?_
    refine va_get (D := D) (ci := 0) (v := .int (nI (P 0 0))) (C := R_P) (T := F_P) (N := 12) hx hb htb u_P hown hK hP 0 rfl rfl 0 (by decide) (htb _ q28) (fun _ h9 => h9) rfl d_P_meetsNeed_12 ?_
    refine nr_icmp_ge (tgt := 51) hx hb (by omega) (by omega) d_P_meetsNeed_15 (by decide) (fun c_15 => by exfalso; omega) (fun c_15 => ?_)
    refine lv_aload_n hx hb d_P_meetsNeed_18 rfl (lv_at hl 1 rfl) ?_
    refine lv_iload hx hb d_P_meetsNeed_19 (lv_at hl 6 rfl) ?_
    refine lv_iload_n hx hb d_P_meetsNeed_21 rfl (lv_at hl 2 rfl) ?_
    refine nr_calli (va_runSN (As := [.int (nI i), .int (nI d)]) (rest := [.ref a]) ⟨hx, hb, hml, hown, hts⟩ (c_R_cell l D i d) ⟨va_cnB 2 hts (gTB q_R_cell) rfl rfl rfl (hN.nw q173 rfl) (htb _ q1) hd_R_cell ⟨Nat.le_of_ble_eq_true rfl, Nat.le_of_ble_eq_true rfl⟩, (htb _ q174), trivial⟩ ⟨ro_blind, ro_pre hN (hP.sub (ws' := []) [] rfl) (hK.sub (tys' := []) [] rfl)⟩ rfl rfl hl.1 rfl (lv_room (Nat.le_of_ble_eq_true rfl)) d_P_meetsNeed_22 ⟨Nat.le_of_ble_eq_true rfl, Nat.le_of_ble_eq_true rfl⟩) (fun r_5 hr_5 => ?_)
    subst hr_5
    refine nr_iald hx hb hK hP 7 6 rfl rfl (by omega) (by decide) d_P_meetsNeed_25 ?_
    have hv_6 := hsh (d * 6 + i)
    refine lv_iload_n hx hb d_P_meetsNeed_26 rfl (lv_at hl 3 rfl) ?_
    refine nr_icmp_ne (tgt := 45) hx hb (by omega) (by omega) d_P_meetsNeed_27 (by decide) (fun c_27 => ?_) (fun c_27 => ?_)
    · refine nr_iinc (k := 6) (lv' := [(6, .int (nI (i + 1))), (0, .ref (ad 1)), (1, .ref a), (2, .int (nI d)), (3, .int (nI sf)), (4, .int (nI th)), (5, .int (nI sk))]) hx hb d_P_meetsNeed_45 hl rfl (by decide) rfl (fun ls hl => ?_)
      refine lv_goto (tgt := 9) hx hb d_P_meetsNeed_48 (by decide) ?_
      exact ih_9 _ _ _ _ (by omega) (by omega) hsk (by rw [← hres, mt, if_neg c_27]) (lv_sub hl [1, 2, 3, 4, 5, 6, 0] rfl)
    · refine nr_iinc (k := 4) (lv' := [(4, .int (nI (th + 1))), (0, .ref (ad 1)), (1, .ref a), (2, .int (nI d)), (3, .int (nI sf)), (5, .int (nI sk)), (6, .int (nI i))]) hx hb d_P_meetsNeed_30 hl rfl (by decide) rfl (fun ls hl => ?_)
      refine lv_iload hx hb d_P_meetsNeed_33 (lv_at hl 5 rfl) ?_
      refine lv_aload_n hx hb d_P_meetsNeed_35 rfl (lv_at hl 1 rfl) ?_
      refine va_get (D := D) (ci := 0) (v := .ref (ad 3)) (C := R_P) (T := F_P) (N := 12) hx hb htb u_P hown hK hP 0 rfl rfl 6 (by decide) (htb _ q41) (fun _ h9 => h9) rfl d_P_meetsNeed_36 ?_
      refine lv_iload hx hb d_P_meetsNeed_39 (lv_at hl 6 rfl) ?_
      refine nr_iald hx hb hK hP 1 0 rfl rfl (by omega) (by decide) d_P_meetsNeed_41 ?_
      have hv_7 := hp1 i
      refine nr_ior hx hb d_P_meetsNeed_42 ?_
      refine lv_istore (lv' := [(5, .int (nI (sk ||| (P 1 i)))), (4, .int (nI (th + 1))), (0, .ref (ad 1)), (1, .ref a), (2, .int (nI d)), (3, .int (nI sf)), (6, .int (nI i))]) hx hb d_P_meetsNeed_43 hl (by decide) rfl (fun ls hl => ?_)
      refine nr_iinc (k := 6) (lv' := [(6, .int (nI (i + 1))), (5, .int (nI (sk ||| (P 1 i)))), (4, .int (nI (th + 1))), (0, .ref (ad 1)), (1, .ref a), (2, .int (nI d)), (3, .int (nI sf))]) hx hb d_P_meetsNeed_45 hl rfl (by decide) rfl (fun ls hl => ?_)
      refine lv_goto (tgt := 9) hx hb d_P_meetsNeed_48 (by decide) ?_
      exact ih_9 _ _ _ _ (by omega) (by omega) (mt_lt hsk (hp1 i)) (by rw [← hres, mt, if_pos c_27]) (lv_sub hl [3, 4, 5, 6, 2, 1, 0] rfl)
set_option maxHeartbeats 4000000 in
set_option maxRecDepth 100000 in
theorem c_P_firstNeedUnmet (l : Launch) (D : va_G) (ad : Nat → Nat) (ca : Nat → ClassId) (P : Nat → Nat → Nat) (a : Nat) (cS : ClassId) (sh : Nat → Nat) (hP0 : okP P) (hsh : ∀ k, sh k ≤ 3) (d : Nat) (hd : d < 7) : Met l y_P_firstNeedUnmet w_P_firstNeedUnmet { frames := 2, cells := 0, slots := 0, locals := 47 } (ro_P [.ref (ad 1), .ref a, .int (nI d)] D (wPS ad ca P a cS sh) (tPS ca cS)) (vp_Si (fun r => r = nI (needUnmet P sh d))) 0 0 (fun _ => False) := by
  refine Met.ofW (cc := b_P_firstNeedUnmet) (maxL := 4) (ret := (some .int)) (by decide) rfl ?_
  intro p e s m args below meth c s₁ B hml hv
  obtain ⟨rfl, hN, hP, hK⟩ := hv
  have hx := B.exec
  have hb := B.bytes
  have hr := B.returns
  have hts := atoms_spec (ws := w_P_firstNeedUnmet) B.pre
  have htb : ∀ w ∈ TBG, w.before [.ref (ad 1), .ref a, .int (nI d)].toArray s = true := fun w h => hts w (List.mem_cons_of_mem _ h)
  have hown : s.vm.findClass R_P = some m.cls := findClass_of_methodNamed B.named
  have hlocks := B.notSynchronized
  have hl := lv_entry ([.ref (ad 1), .ref a, .int (nI d)]) (n := 4) (Nat.le_of_ble_eq_true rfl)
  rw [lg_entry_eq]
  generalize (lg_sl ([.ref (ad 1), .ref a, .int (nI d)]) ++ List.replicate (4 - (lg_sl ([.ref (ad 1), .ref a, .int (nI d)])).length) Slot.unset).toArray = ls at hl ⊢
  have hl : lv_has ls 4 [(0, .ref (ad 1)), (1, .ref a), (2, .int (nI d))] := hl
  obtain ⟨h00, h01, h02, h03, h04, h05, hp1, hp2, hp3, hp4, hp5, hp6⟩ := id hP0
  refine nr_iconst hx hb 1 d_P_firstNeedUnmet_0 (by decide) ?_
  refine lv_istore_n (lv' := [(3, .int (nI 1)), (0, .ref (ad 1)), (1, .ref a), (2, .int (nI d))]) hx hb d_P_firstNeedUnmet_1 rfl hl (by decide) rfl (fun ls hl => ?_)
  replace hl : ∃ k i : Nat, (i + k = 4) ∧ (1 ≤ i) ∧ (nu P sh d k i = needUnmet P sh d) ∧ lv_has ls 4 [(0, .ref (ad 1)), (1, .ref a), (2, .int (nI d)), (3, .int (nI i))] := ⟨3, 1, rfl, Nat.le_refl 1, rfl, lv_sub hl [1, 2, 3, 0] rfl⟩
  obtain ⟨k, i, hk, hi, hres, hl⟩ := hl
  induction k generalizing i ls with
  | zero =>
    refine lv_iload_n hx hb d_P_firstNeedUnmet_2 rfl (lv_at hl 3 rfl) ?_
    refine nr_iconst hx hb 3 d_P_firstNeedUnmet_3 (by decide) ?_
    refine nr_icmp_gt (tgt := 25) hx hb (by omega) (by omega) d_P_firstNeedUnmet_4 (by decide) (fun c_4 => ?_) (fun c_4 => by exfalso; omega)
    refine nr_iconst hx hb 0 d_P_firstNeedUnmet_25 (by decide) ?_
    exact W.iret (v := (nI 0)) hx hb hr (fun t ht hW => ⟨_, rfl, by rw [← hres, nu], ht⟩) (fun q h => by cases h) d_P_firstNeedUnmet_26
  | succ k ih_2 =>
    refine lv_iload_n hx hb d_P_firstNeedUnmet_2 rfl (lv_at hl 3 rfl) ?_
    refine nr_iconst hx hb 3 d_P_firstNeedUnmet_3 (by decide) ?_
    refine nr_icmp_gt (tgt := 25) hx hb (by omega) (by omega) d_P_firstNeedUnmet_4 (by decide) (fun c_4 => by exfalso; omega) (fun c_4 => ?_)
    refine lv_aload_n hx hb d_P_firstNeedUnmet_7 rfl (lv_at hl 0 rfl) ?_
    refine lv_aload_n hx hb d_P_firstNeedUnmet_8 rfl (lv_at hl 1 rfl) ?_
    refine lv_iload_n hx hb d_P_firstNeedUnmet_9 rfl (lv_at hl 2 rfl) ?_
    refine lv_iload_n hx hb d_P_firstNeedUnmet_10 rfl (lv_at hl 3 rfl) ?_
    refine nr_calli (va_runV (As := [.ref a, .int (nI d), .int (nI i)]) (rest := []) ⟨hx, hb, hml, hown, hts⟩ (c_P_meetsNeed l D ad ca P a cS sh hP0 hsh d i (by omega) (by omega)) ⟨callB_of 3 hts (gTB q_P_meetsNeed) rfl rfl rfl (htb _ q2) (htb _ q169) hd_P_meetsNeed ⟨Nat.le_of_ble_eq_true rfl, Nat.le_of_ble_eq_true rfl⟩, (htb _ q171), (htb _ sel_P_meetsNeed)⟩ ⟨ro_blind, va_recv (hK.sub (tys' := []) [] rfl) hP (ci := 0) (q0 := 0) rfl rfl, ro_pre hN (hP.sub (ws' := (wPS ad ca P a cS sh)) [0, 1, 2, 3, 4, 5, 6, 7] rfl) (hK.sub (tys' := (tPS ca cS)) [0, 1, 2, 3, 4, 5, 6] rfl)⟩ rfl rfl hl.1 rfl (lv_room (Nat.le_of_ble_eq_true rfl)) d_P_firstNeedUnmet_11 ⟨Nat.le_of_ble_eq_true rfl, Nat.le_of_ble_eq_true rfl⟩) (fun r_1 hr_1 => ?_)
    subst hr_1
    refine nr_if_ne (tgt := 19) hx hb b01_lt d_P_firstNeedUnmet_14 (by decide) (fun c_14 => ?_) (fun c_14 => ?_)
    · refine nr_iinc (k := 3) (lv' := [(3, .int (nI (i + 1))), (0, .ref (ad 1)), (1, .ref a), (2, .int (nI d))]) hx hb d_P_firstNeedUnmet_19 hl rfl (by decide) rfl (fun ls hl => ?_)
      refine lv_goto (tgt := 2) hx hb d_P_firstNeedUnmet_22 (by decide) ?_
      exact ih_2 _ _ (by omega) (by omega) (by rw [← hres, nu, if_pos (b01_nz c_14)]) (lv_sub hl [1, 2, 3, 0] rfl)
    · refine lv_iload_n hx hb d_P_firstNeedUnmet_17 rfl (lv_at hl 3 rfl) ?_
      exact W.iret (v := (nI i)) hx hb hr (fun t ht hW => ⟨_, rfl, by rw [← hres, nu, if_neg (b01_z c_14)], ht⟩) (fun q h => by cases h) d_P_firstNeedUnmet_18
set_option maxHeartbeats 4000000 in
set_option maxRecDepth 100000 in
theorem c_P_firstNeedFault (l : Launch) (D : va_G) (ad : Nat → Nat) (ca : Nat → ClassId) (P : Nat → Nat → Nat) (a : Nat) (cS : ClassId) (sh : Nat → Nat) (hP0 : okP P) (hsh : ∀ k, sh k ≤ 3) : Met l y_P_firstNeedFault w_P_firstNeedFault { frames := 3, cells := 0, slots := 0, locals := 70 } (ro_P [.ref (ad 1), .ref a] D (wPS ad ca P a cS sh) (tPS ca cS)) (vp_Si (fun r => r = nI (needFault P sh))) 0 0 (fun _ => False) := by
  refine Met.ofW (cc := b_P_firstNeedFault) (maxL := 4) (ret := (some .int)) (by decide) rfl ?_
  intro p e s m args below meth c s₁ B hml hv
  obtain ⟨rfl, hN, hP, hK⟩ := hv
  have hx := B.exec
  have hb := B.bytes
  have hr := B.returns
  have hts := atoms_spec (ws := w_P_firstNeedFault) B.pre
  have htb : ∀ w ∈ TBG, w.before [.ref (ad 1), .ref a].toArray s = true := fun w h => hts w (List.mem_cons_of_mem _ h)
  have hown : s.vm.findClass R_P = some m.cls := findClass_of_methodNamed B.named
  have hlocks := B.notSynchronized
  have hl := lv_entry ([.ref (ad 1), .ref a]) (n := 4) (Nat.le_of_ble_eq_true rfl)
  rw [lg_entry_eq]
  generalize (lg_sl ([.ref (ad 1), .ref a]) ++ List.replicate (4 - (lg_sl ([.ref (ad 1), .ref a])).length) Slot.unset).toArray = ls at hl ⊢
  have hl : lv_has ls 4 [(0, .ref (ad 1)), (1, .ref a)] := hl
  obtain ⟨h00, h01, h02, h03, h04, h05, hp1, hp2, hp3, hp4, hp5, hp6⟩ := id hP0
  refine nr_iconst hx hb 0 d_P_firstNeedFault_0 (by decide) ?_
  refine lv_istore_n (lv' := [(2, .int (nI 0)), (0, .ref (ad 1)), (1, .ref a)]) hx hb d_P_firstNeedFault_1 rfl hl (by decide) rfl (fun ls hl => ?_)
  replace hl : ∃ k d : Nat, (d + k = P 0 1) ∧ (nf P sh k d = needFault P sh) ∧ lv_has ls 4 [(0, .ref (ad 1)), (1, .ref a), (2, .int (nI d))] := ⟨P 0 1, 0, Nat.zero_add _, rfl, lv_sub hl [1, 2, 0] rfl⟩
  obtain ⟨k, d, hk, hres, hl⟩ := hl
  induction k generalizing d ls with
  | zero =>
    refine lv_iload_n hx hb d_P_firstNeedFault_2 rfl (lv_at hl 2 rfl) ?_
    refine lv_aload_n hx hb d_P_firstNeedFault_3 rfl (lv_at hl 0 rfl) ?_
    refine va_get (D := D) (ci := 0) (v := .int (nI (P 0 1))) (C := R_P) (T := F_P) (N := 12) hx hb htb u_P hown hK hP 0 rfl rfl 1 (by decide) (htb _ q31) (fun _ h9 => h9) rfl d_P_firstNeedFault_4 ?_
    refine nr_icmp_ge (tgt := 34) hx hb (by omega) (by omega) d_P_firstNeedFault_7 (by decide) (fun c_7 => ?_) (fun c_7 => by exfalso; omega)
    refine nr_iconst hx hb 0 d_P_firstNeedFault_34 (by decide) ?_
    exact W.iret (v := (nI 0)) hx hb hr (fun t ht hW => ⟨_, rfl, by rw [← hres, nf], ht⟩) (fun q h => by cases h) d_P_firstNeedFault_35
  | succ k ih_2 =>
    refine lv_iload_n hx hb d_P_firstNeedFault_2 rfl (lv_at hl 2 rfl) ?_
    refine lv_aload_n hx hb d_P_firstNeedFault_3 rfl (lv_at hl 0 rfl) ?_
    refine va_get (D := D) (ci := 0) (v := .int (nI (P 0 1))) (C := R_P) (T := F_P) (N := 12) hx hb htb u_P hown hK hP 0 rfl rfl 1 (by decide) (htb _ q31) (fun _ h9 => h9) rfl d_P_firstNeedFault_4 ?_
    refine nr_icmp_ge (tgt := 34) hx hb (by omega) (by omega) d_P_firstNeedFault_7 (by decide) (fun c_7 => by exfalso; omega) (fun c_7 => ?_)
    refine lv_aload_n hx hb d_P_firstNeedFault_10 rfl (lv_at hl 0 rfl) ?_
    refine lv_aload_n hx hb d_P_firstNeedFault_11 rfl (lv_at hl 1 rfl) ?_
    refine lv_iload_n hx hb d_P_firstNeedFault_12 rfl (lv_at hl 2 rfl) ?_
    refine nr_calli (va_runV (As := [.ref a, .int (nI d)]) (rest := []) ⟨hx, hb, hml, hown, hts⟩ (c_P_firstNeedUnmet l D ad ca P a cS sh hP0 hsh d (by omega)) ⟨callB_of 2 hts (gTB q_P_firstNeedUnmet) rfl rfl rfl (htb _ q2) (htb _ q165) hd_P_firstNeedUnmet ⟨Nat.le_of_ble_eq_true rfl, Nat.le_of_ble_eq_true rfl⟩, (htb _ q167), (htb _ sel_P_firstNeedUnmet)⟩ ⟨ro_blind, va_recv (hK.sub (tys' := []) [] rfl) hP (ci := 0) (q0 := 0) rfl rfl, ro_pre hN (hP.sub (ws' := (wPS ad ca P a cS sh)) [0, 1, 2, 3, 4, 5, 6, 7] rfl) (hK.sub (tys' := (tPS ca cS)) [0, 1, 2, 3, 4, 5, 6] rfl)⟩ rfl rfl hl.1 rfl (lv_room (Nat.le_of_ble_eq_true rfl)) d_P_firstNeedFault_13 ⟨Nat.le_of_ble_eq_true rfl, Nat.le_of_ble_eq_true rfl⟩) (fun r_1 hr_1 => ?_)
    subst hr_1
    refine lv_istore_n (lv' := [(3, .int (nI (needUnmet P sh d))), (0, .ref (ad 1)), (1, .ref a), (2, .int (nI d))]) hx hb d_P_firstNeedFault_16 rfl hl (by decide) rfl (fun ls hl => ?_)
    refine lv_iload_n hx hb d_P_firstNeedFault_17 rfl (lv_at hl 0 rfl) ?_
    refine nr_if_eq (tgt := 28) hx hb (Nat.lt_of_le_of_lt (needUnmet_le P sh d) (by decide)) d_P_firstNeedFault_18 (by decide) (fun c_18 => ?_) (fun c_18 => ?_)
    · refine nr_iinc (k := 3) (lv' := [(2, .int (nI (d + 1))), (3, .int (nI (needUnmet P sh d))), (0, .ref (ad 1)), (1, .ref a)]) hx hb d_P_firstNeedFault_28 hl rfl (by decide) rfl (fun ls hl => ?_)
      refine lv_goto (tgt := 2) hx hb d_P_firstNeedFault_31 (by decide) ?_
      exact ih_2 _ _ (by omega) (by rw [← hres, nf, if_pos c_18]) (lv_sub hl [2, 3, 0] rfl)
    · refine nr_iconst hx hb 1 d_P_firstNeedFault_21 (by decide) ?_
      refine lv_iload_n hx hb d_P_firstNeedFault_22 rfl (lv_at hl 0 rfl) ?_
      refine lv_iload_n hx hb d_P_firstNeedFault_23 rfl (lv_at hl 3 rfl) ?_
      refine nr_calli (va_runS (As := [.int (nI 1), .int (nI (needUnmet P sh d)), .int (nI d)]) (rest := []) ⟨hx, hb, hml, hown, hts⟩ (c_P_faultNumber l D 1 (needUnmet P sh d) d) ⟨callB_of 3 hts (gTB q_P_faultNumber) rfl rfl rfl (htb _ q2) (htb _ q179) hd_P_faultNumber ⟨Nat.le_of_ble_eq_true rfl, Nat.le_of_ble_eq_true rfl⟩, (htb _ q180)⟩ ⟨ro_blind, ro_pre hN (hP.sub (ws' := []) [] rfl) (hK.sub (tys' := []) [] rfl)⟩ rfl rfl hl.1 rfl (lv_room (Nat.le_of_ble_eq_true rfl)) d_P_firstNeedFault_24 ⟨Nat.le_of_ble_eq_true rfl, Nat.le_of_ble_eq_true rfl⟩) (fun r_2 hr_2 => ?_)
      subst hr_2
      exact W.iret (v := (nI (100 * 1 + 10 * (needUnmet P sh d) + d))) hx hb hr (fun t ht hW => ⟨_, rfl, by rw [← hres, nf, if_neg c_18], ht⟩) (fun q h => by cases h) d_P_firstNeedFault_27

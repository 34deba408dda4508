def runI (S : Nat → Nat → Nat) (ro : Nat → Nat) (fz lim : Nat) : Nat → Nat → Nat := up2 (up2 (up2 (up2 (up2 (up2 (upr S 2 ro) 0 1 fz) 0 0 lim) 0 2 0) 0 3 0) 0 4 2001) 0 5 0
/-- what a solve comes to: stopped, steps, right ones, the least unmet sum, the best -/
def slv (P : Nat → Nat → Nat) (ro : Nat → Nat) (fz lim : Nat) : Nat × Nat × Nat × Nat × (Nat → Nat) := if P 0 0 = 0 ∨ P 0 1 = 0 then (if needFault P ro = 0 then (0, 0, 1, 0, ro) else (0, 0, 0, 0, ro)) else srch P ro fz lim 40002 0 0 0 0 0 0 (fun _ => 0) (fun _ => 0)
def ranS (S : Nat → Nat → Nat) (F : Nat × Nat × Nat × Nat × (Nat → Nat)) : Prop := okS S ∧ S 0 6 = 1 - F.1 ∧ S 0 2 = F.2.1 ∧ S 0 3 = F.2.2.1 ∧ (0 < F.2.2.1 → S 0 4 = F.2.2.2.1 ∧ S 1 = F.2.2.2.2)
theorem ok_run {S : Nat → Nat → Nat} {ro : Nat → Nat} {fz lim : Nat} (h : okS S) (hro : ∀ k, ro k ≤ 3) (hfz : fz ≤ 7) (hlim : lim ≤ 20000) : okS (runI S ro fz lim) := by
  obtain ⟨g00, g01, g02, g03, g04, g05, g06, hs1, hs2, hs3, hs4, hs5, hs6, hs7⟩ := h
  exact ⟨hlim, hfz, Nat.zero_le _, Nat.zero_le _, (by decide : 2001 ≤ 100000), Nat.zero_le _, g06, hs1, hro, hs3, hs4, hs5, hs6, hs7⟩
theorem to_05 {P S : Nat → Nat → Nat} {ro : Nat → Nat} {fz lim : Nat} : toS P (runI S ro fz lim) 0 5 = 0 := by
  unfold toS
  split <;> rfl
theorem ran_of {u : Nat → Nat → Nat} {F : Nat × Nat × Nat × Nat × (Nat → Nat)} {x : Nat} (h : goneS u F) (hx : x = 1 - F.1) (hx1 : x ≤ 1) : ranS (up2 u 0 6 x) F := by
  obtain ⟨⟨g00, g01, g02, g03, g04, g05, g06, hs1, hs2, hs3, hs4, hs5, hs6, hs7⟩, h5, h2, h3, h4⟩ := h
  exact ⟨⟨g00, g01, g02, g03, g04, g05, hx1, hs1, hs2, hs3, hs4, hs5, hs6, hs7⟩, hx, h2, h3, h4⟩
theorem ran_only {P S : Nat → Nat → Nat} {ro : Nat → Nat} {fz lim : Nat} (hz : P 0 0 = 0 ∨ P 0 1 = 0) (h : okS (runI S ro fz lim)) : ranS (up2 (toS P (runI S ro fz lim)) 0 6 1) (slv P ro fz lim) := by
  obtain ⟨g00, g01, g02, g03, g04, g05, g06, hs1, hs2, hs3, hs4, hs5, hs6, hs7⟩ := h
  have e : needFault P (runI S ro fz lim 2) = needFault P ro := rfl
  unfold slv toS
  rw [if_pos hz, e]
  split
  · exact ⟨⟨g00, g01, g02, (by decide : 1 ≤ 40000), Nat.zero_le _, g05, Nat.le_refl 1, hs2, hs2, hs3, hs4, hs5, hs6, hs7⟩, rfl, rfl, rfl, fun _ => ⟨rfl, rfl⟩⟩
  · exact ⟨⟨g00, g01, g02, g03, g04, g05, Nat.le_refl 1, hs1, hs2, hs3, hs4, hs5, hs6, hs7⟩, rfl, rfl, rfl, fun h => absurd h (Nat.lt_irrefl 0)⟩
set_option maxHeartbeats 4000000 in
set_option maxRecDepth 100000 in
theorem c_S_run (l : Launch) (D : va_G) (ad : Nat → Nat) (ca : Nat → ClassId) (P S : Nat → Nat → Nat) (a : Nat) (cS : ClassId) (ro : Nat → Nat) (hP0 : okP P) (hS0 : okS S) (hro : ∀ k, ro k ≤ 3) (fz lim : Nat) (hfz : fz ≤ 7) (hlim : lim ≤ 20000) (hout : ∀ k, ¬ (k % 6 < P 0 0 ∧ k / 6 < P 0 1) → ro k = 0) (hcap : ∀ (t : Nat → Nat) (e q : Nat), (∀ k, t k ≤ 3) → q < P 0 0 → e < P 0 1 → unm P t e q ≤ 2000) (sz : Nat) : Met l y_S_run w_S_run { frames := 5, cells := 0, slots := 0, locals := 121 } (rw_P [.ref (ad 2), .ref a, .int (nI fz), .int (nI lim)] D (wSP ad ca P S a cS ro) (tSP ca cS) sz) (rw_Qv (fun u : Nat → Nat → Nat => ranS u (slv P ro fz lim)) D (wSP ad ca P S a cS ro) (fun u => wSP ad ca P u a cS ro) sz) 0 0 (va_A (wSP ad ca P S a cS ro) sz) := by
  refine Met.ofW (cc := b_S_run) (maxL := 4) (ret := none) (by decide) rfl ?_
  intro p e s m args below meth c s₁ B hml hv
  obtain ⟨rfl, hsz, hN, hP, hK, hD0⟩ := hv
  have hx := B.exec
  have hb := B.bytes
  have hr := B.returns
  have hts := atoms_spec (ws := w_S_run) B.pre
  have htb : ∀ w ∈ TBG, w.before [.ref (ad 2), .ref a, .int (nI fz), .int (nI lim)].toArray s = true := fun w h => hts w (List.mem_cons_of_mem _ h)
  have hown : s.vm.findClass R_S = some m.cls := findClass_of_methodNamed B.named
  have hlocks := B.notSynchronized
  subst hsz
  have hD := hD0.self (sz := s.heap.size)
  unfold rw_Qv
  generalize hAe : va_A (wSP ad ca P S a cS ro) s.heap.size = A at hD ⊢
  have hA : ∀ q : Nat, s.heap.size ≤ q → A q := fun q h => by rw [← hAe]; exact Or.inr h
  have hS : va_S A s.heap s.heap [] := va_S.rf
  have hl := lv_entry ([.ref (ad 2), .ref a, .int (nI fz), .int (nI lim)]) (n := 4) (Nat.le_of_ble_eq_true rfl)
  rw [lg_entry_eq]
  generalize (lg_sl ([.ref (ad 2), .ref a, .int (nI fz), .int (nI lim)]) ++ List.replicate (4 - (lg_sl ([.ref (ad 2), .ref a, .int (nI fz), .int (nI lim)])).length) Slot.unset).toArray = ls at hl ⊢
  have hl : lv_has ls 4 [(0, .ref (ad 2)), (1, .ref a), (2, .int (nI fz)), (3, .int (nI lim))] := hl
  refine nr_start hP hS (fun H locs hP hS => ?_)
  obtain ⟨h00, h01, h02, h03, h04, h05, hp1, hp2, hp3, hp4, hp5, hp6⟩ := id hP0
  obtain ⟨g00, g01, g02, g03, g04, g05, g06, hs1, hs2, hs3, hs4, hs5, hs6, hs7⟩ := id hS0
  refine lv_aload_n hx hb d_S_run_0 rfl (lv_at hl 1 rfl) ?_
  refine nr_iconst hx hb 0 d_S_run_1 (by decide) ?_
  refine lv_aload_n hx hb d_S_run_2 rfl (lv_at hl 0 rfl) ?_
  refine va_get (D := D) (ci := 1) (v := .ref (ad 10)) (C := R_S) (T := F_S) (N := 15) hx hb htb u_S hown hK hP 7 rfl rfl 2 (by decide) (htb _ q86) (fun _ h9 => h9) rfl d_S_run_3 ?_
  refine nr_iconst hx hb 0 d_S_run_6 (by decide) ?_
  refine nr_bipush hx hb 42 d_S_run_7 (by decide) ?_
  refine nr_copy hx hb (hml.trans hl.1.symm) hown (htb _ q471) (htb _ q235) (htb _ q234) (htb _ q12) hK hP hD hS 15 9 13 7 rfl rfl rfl rfl (Nat.le_of_ble_eq_true rfl) (Nat.le_of_ble_eq_true rfl) d_S_run_9 (fun H locs hP hD hS => ?_)
  replace hP : va_P D cls (wSP ad ca P (upr S 2 ro) a cS ro) H := hP
  replace hD : va_D A (wSP ad ca P (upr S 2 ro) a cS ro) := hD
  refine lv_aload_n hx hb d_S_run_12 rfl (lv_at hl 0 rfl) ?_
  refine lv_iload_n hx hb d_S_run_13 rfl (lv_at hl 2 rfl) ?_
  refine va_put (D := D) (ci := 1) (v := .int (nI fz)) (ty := .int) (C := R_S) (T := F_S) (N := 15) hx hb htb u_S t_S t_S_ok n_S hown hK hP hD hS 7 rfl rfl 9 (by decide) (htb _ q93) (fun _ h9 => h9) rfl (by decide +kernel) rfl rfl (Nat.le_of_ble_eq_true rfl) d_S_run_14 (fun H locs hP hD hS => ?_)
  replace hP : va_P D cls (wSP ad ca P (up2 (upr S 2 ro) 0 1 fz) a cS ro) H := hP
  replace hD : va_D A (wSP ad ca P (up2 (upr S 2 ro) 0 1 fz) a cS ro) := hD
  refine lv_aload_n hx hb d_S_run_17 rfl (lv_at hl 0 rfl) ?_
  refine lv_iload_n hx hb d_S_run_18 rfl (lv_at hl 3 rfl) ?_
  refine va_put (D := D) (ci := 1) (v := .int (nI lim)) (ty := .int) (C := R_S) (T := F_S) (N := 15) hx hb htb u_S t_S t_S_ok n_S hown hK hP hD hS 7 rfl rfl 8 (by decide) (htb _ q92) (fun _ h9 => h9) rfl (by decide +kernel) rfl rfl (Nat.le_of_ble_eq_true rfl) d_S_run_19 (fun H locs hP hD hS => ?_)
  replace hP : va_P D cls (wSP ad ca P (up2 (up2 (upr S 2 ro) 0 1 fz) 0 0 lim) a cS ro) H := hP
  replace hD : va_D A (wSP ad ca P (up2 (up2 (upr S 2 ro) 0 1 fz) 0 0 lim) a cS ro) := hD
  refine lv_aload_n hx hb d_S_run_22 rfl (lv_at hl 0 rfl) ?_
  refine nr_iconst hx hb 0 d_S_run_23 (by decide) ?_
  refine va_put (D := D) (ci := 1) (v := .int (nI 0)) (ty := .int) (C := R_S) (T := F_S) (N := 15) hx hb htb u_S t_S t_S_ok n_S hown hK hP hD hS 7 rfl rfl 10 (by decide) (htb _ q94) (fun _ h9 => h9) rfl (by decide +kernel) rfl rfl (Nat.le_of_ble_eq_true rfl) d_S_run_24 (fun H locs hP hD hS => ?_)
  replace hP : va_P D cls (wSP ad ca P (up2 (up2 (up2 (upr S 2 ro) 0 1 fz) 0 0 lim) 0 2 0) a cS ro) H := hP
  replace hD : va_D A (wSP ad ca P (up2 (up2 (up2 (upr S 2 ro) 0 1 fz) 0 0 lim) 0 2 0) a cS ro) := hD
  refine lv_aload_n hx hb d_S_run_27 rfl (lv_at hl 0 rfl) ?_
  refine nr_iconst hx hb 0 d_S_run_28 (by decide) ?_
  refine va_put (D := D) (ci := 1) (v := .int (nI 0)) (ty := .int) (C := R_S) (T := F_S) (N := 15) hx hb htb u_S t_S t_S_ok n_S hown hK hP hD hS 7 rfl rfl 11 (by decide) (htb _ q96) (fun _ h9 => h9) rfl (by decide +kernel) rfl rfl (Nat.le_of_ble_eq_true rfl) d_S_run_29 (fun H locs hP hD hS => ?_)
  replace hP : va_P D cls (wSP ad ca P (up2 (up2 (up2 (up2 (upr S 2 ro) 0 1 fz) 0 0 lim) 0 2 0) 0 3 0) a cS ro) H := hP
  replace hD : va_D A (wSP ad ca P (up2 (up2 (up2 (up2 (upr S 2 ro) 0 1 fz) 0 0 lim) 0 2 0) 0 3 0) a cS ro) := hD
  refine lv_aload_n hx hb d_S_run_32 rfl (lv_at hl 0 rfl) ?_
  refine nr_sipush hx hb 2001 d_S_run_33 (by decide) ?_
  refine va_put (D := D) (ci := 1) (v := .int (nI 2001)) (ty := .int) (C := R_S) (T := F_S) (N := 15) hx hb htb u_S t_S t_S_ok n_S hown hK hP hD hS 7 rfl rfl 12 (by decide) (htb _ q98) (fun _ h9 => h9) rfl (by decide +kernel) rfl rfl (Nat.le_of_ble_eq_true rfl) d_S_run_36 (fun H locs hP hD hS => ?_)
  replace hP : va_P D cls (wSP ad ca P (up2 (up2 (up2 (up2 (up2 (upr S 2 ro) 0 1 fz) 0 0 lim) 0 2 0) 0 3 0) 0 4 2001) a cS ro) H := hP
  replace hD : va_D A (wSP ad ca P (up2 (up2 (up2 (up2 (up2 (upr S 2 ro) 0 1 fz) 0 0 lim) 0 2 0) 0 3 0) 0 4 2001) a cS ro) := hD
  refine lv_aload_n hx hb d_S_run_39 rfl (lv_at hl 0 rfl) ?_
  refine nr_iconst hx hb 0 d_S_run_40 (by decide) ?_
  refine va_put (D := D) (ci := 1) (v := .int (nI 0)) (ty := .boolean) (C := R_S) (T := F_S) (N := 15) hx hb htb u_S t_S t_S_ok n_S hown hK hP hD hS 7 rfl rfl 13 (by decide) (htb _ q100) (fun _ h9 => h9) rfl (by decide +kernel) (nr_bool (by omega)) (nr_boolF (by omega)) (Nat.le_of_ble_eq_true rfl) d_S_run_41 (fun H locs hP hD hS => ?_)
  replace hP : va_P D cls (wSP ad ca P (up2 (up2 (up2 (up2 (up2 (up2 (upr S 2 ro) 0 1 fz) 0 0 lim) 0 2 0) 0 3 0) 0 4 2001) 0 5 0) a cS ro) H := hP
  replace hD : va_D A (wSP ad ca P (up2 (up2 (up2 (up2 (up2 (up2 (upr S 2 ro) 0 1 fz) 0 0 lim) 0 2 0) 0 3 0) 0 4 2001) 0 5 0) a cS ro) := hD
  have hfold : up2 (up2 (up2 (up2 (up2 (up2 (upr S 2 ro) 0 1 fz) 0 0 lim) 0 2 0) 0 3 0) 0 4 2001) 0 5 0 = runI S ro fz lim := rfl
  rw [hfold] at hP hD
  refine lv_aload_n hx hb d_S_run_44 rfl (lv_at hl 0 rfl) ?_
  refine va_get (D := D) (ci := 1) (v := .ref (ad 1)) (C := R_S) (T := F_S) (N := 15) hx hb htb u_S hown hK hP 7 rfl rfl 0 (by decide) (htb _ q83) (fun _ h9 => h9) rfl d_S_run_45 ?_
  refine va_getN (D := D) (ci := 0) (v := .int (nI (P 0 0))) (C := R_P) (T := F_P) (N := 12) hx hb htb u_P hown hK hP 0 rfl rfl 0 (by decide) (hN.at q29 rfl rfl) (fun _ h9 => h9) rfl d_S_run_48 ?_
  refine nr_if_eq (tgt := 64) hx hb (by omega) d_S_run_51 (by decide) (fun c_51 => ?_) (fun c_51 => ?_)
  · refine lv_aload_n hx hb d_S_run_64 rfl (lv_at hl 0 rfl) ?_
    have hcurS : okS (runI S ro fz lim) := (ok_run hS0 hro hfz hlim)
    refine nr_callv (wr := ([] : va_W)) (va_runV (As := []) (rest := []) ⟨hx, hb, hml, hown, hts⟩ (c_S_takeOnlyRoster l D ad ca P (runI S ro fz lim) a cS ro hP0 hcurS hro H.size) ⟨callB_of 0 hts (gTB q_S_takeOnlyRoster) rfl rfl rfl (htb _ q3) (htb _ q472) hd_S_takeOnlyRoster ⟨Nat.le_of_ble_eq_true rfl, Nat.le_of_ble_eq_true rfl⟩, (htb _ q474), (htb _ sel_S_takeOnlyRoster)⟩ ⟨rw_blind, va_recv (hK.sub (tys' := []) [] rfl) hP (ci := 1) (q0 := 7) rfl rfl, rw_pre hN (hP.sub (ws' := (wSP ad ca P (runI S ro fz lim) a cS ro)) [0, 1, 2, 3, 4, 5, 6, 7, 8, 9, 10, 11, 12, 13, 14, 15] rfl) (hK.sub (tys' := (tSP ca cS)) [0, 1, 2, 3, 4, 5, 6, 7, 8, 9, 10, 11, 12, 13] rfl) (hD.sub (ws' := (wSP ad ca P (runI S ro fz lim) a cS ro)) [0, 1, 2, 3, 4, 5, 6, 7, 8, 9, 10, 11, 12, 13, 14, 15] (by decide) rfl)⟩ rfl rfl hl.1 rfl (lv_room (Nat.le_of_ble_eq_true rfl)) d_S_run_65 ⟨Nat.le_of_ble_eq_true rfl, Nat.le_of_ble_eq_true rfl⟩) hP hD hS hA [0, 1, 2, 3, 4, 5, 6, 7, 8, 9, 10, 11, 12, 13, 14, 15] [] rfl rfl (by decide) (by decide) (fun u_2 H locs hu_2 hP hD hS => ?_)
    replace hP := hP.sub (ws' := wSP ad ca P (toS P (runI S ro fz lim)) a cS ro) [0, 1, 2, 3, 4, 5, 6, 7, 8, 9, 10, 11, 12, 13, 14, 15] rfl
    replace hD := hD.sub (ws' := wSP ad ca P (toS P (runI S ro fz lim)) a cS ro) [0, 1, 2, 3, 4, 5, 6, 7, 8, 9, 10, 11, 12, 13, 14, 15] (by decide) rfl
    refine lv_goto (tgt := 76) hx hb d_S_run_68 (by decide) ?_
    have h05z : toS P (runI S ro fz lim) 0 5 = 0 := to_05
    refine lv_aload_n hx hb d_S_run_76 rfl (lv_at hl 0 rfl) ?_
    refine lv_aload_n hx hb d_S_run_77 rfl (lv_at hl 0 rfl) ?_
    refine va_get (D := D) (ci := 1) (v := .int (nI ((toS P (runI S ro fz lim)) 0 5))) (C := R_S) (T := F_S) (N := 15) hx hb htb u_S hown hK hP 7 rfl rfl 13 (by decide) (htb _ q100) (fun _ h9 => h9) rfl d_S_run_78 ?_
    refine nr_if_ne (tgt := 88) hx hb (by omega) d_S_run_81 (by decide) (fun c_81 => by exfalso; omega) (fun c_81 => ?_)
    refine nr_iconst hx hb 1 d_S_run_84 (by decide) ?_
    refine lv_goto (tgt := 89) hx hb d_S_run_85 (by decide) ?_
    refine va_put (D := D) (ci := 1) (v := .int (nI 1)) (ty := .boolean) (C := R_S) (T := F_S) (N := 15) hx hb htb u_S t_S t_S_ok n_S hown hK hP hD hS 7 rfl rfl 14 (by decide) (htb _ q101) (fun _ h9 => h9) rfl (by decide +kernel) (nr_bool (by omega)) (nr_boolF (by omega)) (Nat.le_of_ble_eq_true rfl) d_S_run_89 (fun H locs hP hD hS => ?_)
    replace hP : va_P D cls (wSP ad ca P (up2 (toS P (runI S ro fz lim)) 0 6 1) a cS ro) H := hP
    replace hD : va_D A (wSP ad ca P (up2 (toS P (runI S ro fz lim)) 0 6 1) a cS ro) := hD
    exact W.vret hx hb hr (fun t ht hW => ⟨⟨up2 (toS P (runI S ro fz lim)) 0 6 1, rfl, ran_only (by omega) (ok_run hS0 hro hfz hlim), by rw [ht]; exact hP, hD⟩, hS.F ht⟩) hS.2.2 d_S_run_92
  · refine lv_aload_n hx hb d_S_run_54 rfl (lv_at hl 0 rfl) ?_
    refine va_get (D := D) (ci := 1) (v := .ref (ad 1)) (C := R_S) (T := F_S) (N := 15) hx hb htb u_S hown hK hP 7 rfl rfl 0 (by decide) (htb _ q83) (fun _ h9 => h9) rfl d_S_run_55 ?_
    refine va_getN (D := D) (ci := 0) (v := .int (nI (P 0 1))) (C := R_P) (T := F_P) (N := 12) hx hb htb u_P hown hK hP 0 rfl rfl 1 (by decide) (hN.at q32 rfl rfl) (fun _ h9 => h9) rfl d_S_run_58 ?_
    refine nr_if_ne (tgt := 71) hx hb (by omega) d_S_run_61 (by decide) (fun c_61 => ?_) (fun c_61 => ?_)
    · refine lv_aload_n hx hb d_S_run_71 rfl (lv_at hl 0 rfl) ?_
      refine lv_aload_n hx hb d_S_run_72 rfl (lv_at hl 1 rfl) ?_
      have hcurS : okS (runI S ro fz lim) := (ok_run hS0 hro hfz hlim)
      refine nr_callv (wr := ([] : va_W)) (va_runV (As := [.ref a]) (rest := []) ⟨hx, hb, hml, hown, hts⟩ (c_S_goThrough l D ad ca P (runI S ro fz lim) a cS ro hP0 hcurS hro (by omega) (by omega) rfl rfl rfl rfl rfl hout hcap H.size) ⟨callB_of 1 hts (gTB q_S_goThrough) rfl rfl rfl (htb _ q3) (htb _ q481) hd_S_goThrough ⟨Nat.le_of_ble_eq_true rfl, Nat.le_of_ble_eq_true rfl⟩, (htb _ q483), (htb _ sel_S_goThrough)⟩ ⟨rw_blind, va_recv (hK.sub (tys' := []) [] rfl) hP (ci := 1) (q0 := 7) rfl rfl, rw_pre hN (hP.sub (ws' := (wSP ad ca P (runI S ro fz lim) a cS ro)) [0, 1, 2, 3, 4, 5, 6, 7, 8, 9, 10, 11, 12, 13, 14, 15] rfl) (hK.sub (tys' := (tSP ca cS)) [0, 1, 2, 3, 4, 5, 6, 7, 8, 9, 10, 11, 12, 13] rfl) (hD.sub (ws' := (wSP ad ca P (runI S ro fz lim) a cS ro)) [0, 1, 2, 3, 4, 5, 6, 7, 8, 9, 10, 11, 12, 13, 14, 15] (by decide) rfl)⟩ rfl rfl hl.1 rfl (lv_room (Nat.le_of_ble_eq_true rfl)) d_S_run_73 ⟨Nat.le_of_ble_eq_true rfl, Nat.le_of_ble_eq_true rfl⟩) hP hD hS hA [0, 1, 2, 3, 4, 5, 6, 7, 8, 9, 10, 11, 12, 13, 14, 15] [] rfl rfl (by decide) (by decide) (fun u_4 H locs hu_4 hP hD hS => ?_)
      replace hP := hP.sub (ws' := wSP ad ca P u_4 a cS ro) [0, 1, 2, 3, 4, 5, 6, 7, 8, 9, 10, 11, 12, 13, 14, 15] rfl
      replace hD := hD.sub (ws' := wSP ad ca P u_4 a cS ro) [0, 1, 2, 3, 4, 5, 6, 7, 8, 9, 10, 11, 12, 13, 14, 15] (by decide) rfl
      have hgo : goneS u_4 (srch P ro fz lim 40002 0 0 0 0 0 0 (fun _ => 0) (fun _ => 0)) := hu_4
      have hg05 := hgo.2.1
      have hg5 := (hgo.1).2.2.2.2.2.1
      refine lv_aload_n hx hb d_S_run_76 rfl (lv_at hl 0 rfl) ?_
      refine lv_aload_n hx hb d_S_run_77 rfl (lv_at hl 0 rfl) ?_
      refine va_get (D := D) (ci := 1) (v := .int (nI (u_4 0 5))) (C := R_S) (T := F_S) (N := 15) hx hb htb u_S hown hK hP 7 rfl rfl 13 (by decide) (htb _ q100) (fun _ h9 => h9) rfl d_S_run_78 ?_
      refine nr_if_ne (tgt := 88) hx hb (by omega) d_S_run_81 (by decide) (fun c_81 => ?_) (fun c_81 => ?_)
      · refine nr_iconst hx hb 0 d_S_run_88 (by decide) ?_
        refine va_put (D := D) (ci := 1) (v := .int (nI 0)) (ty := .boolean) (C := R_S) (T := F_S) (N := 15) hx hb htb u_S t_S t_S_ok n_S hown hK hP hD hS 7 rfl rfl 14 (by decide) (htb _ q101) (fun _ h9 => h9) rfl (by decide +kernel) (nr_bool (by omega)) (nr_boolF (by omega)) (Nat.le_of_ble_eq_true rfl) d_S_run_89 (fun H locs hP hD hS => ?_)
        replace hP : va_P D cls (wSP ad ca P (up2 u_4 0 6 0) a cS ro) H := hP
        replace hD : va_D A (wSP ad ca P (up2 u_4 0 6 0) a cS ro) := hD
        exact W.vret hx hb hr (fun t ht hW => ⟨⟨up2 u_4 0 6 0, rfl, by unfold slv; rw [if_neg (by omega)]; exact ran_of hgo (by omega) (by omega), by rw [ht]; exact hP, hD⟩, hS.F ht⟩) hS.2.2 d_S_run_92
      · refine nr_iconst hx hb 1 d_S_run_84 (by decide) ?_
        refine lv_goto (tgt := 89) hx hb d_S_run_85 (by decide) ?_
        refine va_put (D := D) (ci := 1) (v := .int (nI 1)) (ty := .boolean) (C := R_S) (T := F_S) (N := 15) hx hb htb u_S t_S t_S_ok n_S hown hK hP hD hS 7 rfl rfl 14 (by decide) (htb _ q101) (fun _ h9 => h9) rfl (by decide +kernel) (nr_bool (by omega)) (nr_boolF (by omega)) (Nat.le_of_ble_eq_true rfl) d_S_run_89 (fun H locs hP hD hS => ?_)
        replace hP : va_P D cls (wSP ad ca P (up2 u_4 0 6 1) a cS ro) H := hP
        replace hD : va_D A (wSP ad ca P (up2 u_4 0 6 1) a cS ro) := hD
        exact W.vret hx hb hr (fun t ht hW => ⟨⟨up2 u_4 0 6 1, rfl, by unfold slv; rw [if_neg (by omega)]; exact ran_of hgo (by omega) (by omega), by rw [ht]; exact hP, hD⟩, hS.F ht⟩) hS.2.2 d_S_run_92
    · refine lv_aload_n hx hb d_S_run_64 rfl (lv_at hl 0 rfl) ?_
      have hcurS : okS (runI S ro fz lim) := (ok_run hS0 hro hfz hlim)
      refine nr_callv (wr := ([] : va_W)) (va_runV (As := []) (rest := []) ⟨hx, hb, hml, hown, hts⟩ (c_S_takeOnlyRoster l D ad ca P (runI S ro fz lim) a cS ro hP0 hcurS hro H.size) ⟨callB_of 0 hts (gTB q_S_takeOnlyRoster) rfl rfl rfl (htb _ q3) (htb _ q472) hd_S_takeOnlyRoster ⟨Nat.le_of_ble_eq_true rfl, Nat.le_of_ble_eq_true rfl⟩, (htb _ q474), (htb _ sel_S_takeOnlyRoster)⟩ ⟨rw_blind, va_recv (hK.sub (tys' := []) [] rfl) hP (ci := 1) (q0 := 7) rfl rfl, rw_pre hN (hP.sub (ws' := (wSP ad ca P (runI S ro fz lim) a cS ro)) [0, 1, 2, 3, 4, 5, 6, 7, 8, 9, 10, 11, 12, 13, 14, 15] rfl) (hK.sub (tys' := (tSP ca cS)) [0, 1, 2, 3, 4, 5, 6, 7, 8, 9, 10, 11, 12, 13] rfl) (hD.sub (ws' := (wSP ad ca P (runI S ro fz lim) a cS ro)) [0, 1, 2, 3, 4, 5, 6, 7, 8, 9, 10, 11, 12, 13, 14, 15] (by decide) rfl)⟩ rfl rfl hl.1 rfl (lv_room (Nat.le_of_ble_eq_true rfl)) d_S_run_65 ⟨Nat.le_of_ble_eq_true rfl, Nat.le_of_ble_eq_true rfl⟩) hP hD hS hA [0, 1, 2, 3, 4, 5, 6, 7, 8, 9, 10, 11, 12, 13, 14, 15] [] rfl rfl (by decide) (by decide) (fun u_7 H locs hu_7 hP hD hS => ?_)
      replace hP := hP.sub (ws' := wSP ad ca P (toS P (runI S ro fz lim)) a cS ro) [0, 1, 2, 3, 4, 5, 6, 7, 8, 9, 10, 11, 12, 13, 14, 15] rfl
      replace hD := hD.sub (ws' := wSP ad ca P (toS P (runI S ro fz lim)) a cS ro) [0, 1, 2, 3, 4, 5, 6, 7, 8, 9, 10, 11, 12, 13, 14, 15] (by decide) rfl
      refine lv_goto (tgt := 76) hx hb d_S_run_68 (by decide) ?_
      have h05z : toS P (runI S ro fz lim) 0 5 = 0 := to_05
      refine lv_aload_n hx hb d_S_run_76 rfl (lv_at hl 0 rfl) ?_
      refine lv_aload_n hx hb d_S_run_77 rfl (lv_at hl 0 rfl) ?_
      refine va_get (D := D) (ci := 1) (v := .int (nI ((toS P (runI S ro fz lim)) 0 5))) (C := R_S) (T := F_S) (N := 15) hx hb htb u_S hown hK hP 7 rfl rfl 13 (by decide) (htb _ q100) (fun _ h9 => h9) rfl d_S_run_78 ?_
      refine nr_if_ne (tgt := 88) hx hb (by omega) d_S_run_81 (by decide) (fun c_81 => by exfalso; omega) (fun c_81 => ?_)
      refine nr_iconst hx hb 1 d_S_run_84 (by decide) ?_
      refine lv_goto (tgt := 89) hx hb d_S_run_85 (by decide) ?_
      refine va_put (D := D) (ci := 1) (v := .int (nI 1)) (ty := .boolean) (C := R_S) (T := F_S) (N := 15) hx hb htb u_S t_S t_S_ok n_S hown hK hP hD hS 7 rfl rfl 14 (by decide) (htb _ q101) (fun _ h9 => h9) rfl (by decide +kernel) (nr_bool (by omega)) (nr_boolF (by omega)) (Nat.le_of_ble_eq_true rfl) d_S_run_89 (fun H locs hP hD hS => ?_)
      replace hP : va_P D cls (wSP ad ca P (up2 (toS P (runI S ro fz lim)) 0 6 1) a cS ro) H := hP
      replace hD : va_D A (wSP ad ca P (up2 (toS P (runI S ro fz lim)) 0 6 1) a cS ro) := hD
      exact W.vret hx hb hr (fun t ht hW => ⟨⟨up2 (toS P (runI S ro fz lim)) 0 6 1, rfl, ran_only (by omega) (ok_run hS0 hro hfz hlim), by rw [ht]; exact hP, hD⟩, hS.F ht⟩) hS.2.2 d_S_run_92

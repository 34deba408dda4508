set_option maxHeartbeats 4000000 in
set_option maxRecDepth 100000 in
theorem r_R_days (l : Launch) (D : va_G) (ad : Nat → Nat) (ca : Nat → ClassId) (P S G : Nat → Nat → Nat) (hP0 : okP P) (hS0 : okS S) (hG0 : okG G) (d : Nat) (hd7 : d ≤ 7) (sz : Nat) : Met l y_R_days w_R_days { frames := 2, cells := 0, slots := 0, locals := 43 } (rw_P [.ref (ad 0), .int (nI d)] D (wR ad ca P S G) (tR ca) sz) (rw_Qv (fun u : Unit => True) D (wR ad ca P S G) (fun u => wR ad ca (sdP P d) S (upr (up2 G 0 0 0) 1 (fun _ => 0))) sz) 0 0 (va_A (wR ad ca P S G) sz) := by
  refine Met.ofW (cc := b_R_days) (maxL := 2) (ret := none) (by decide) rfl ?_
  intro p e s m args below meth c s₁ B hml hv
  obtain ⟨rfl, hsz, hN, hP, hK, hD0⟩ := hv
  have hx := B.exec
  have hb := B.bytes
  have hr := B.returns
  have hts := atoms_spec (ws := w_R_days) B.pre
  have htb : ∀ w ∈ TBG, w.before [.ref (ad 0), .int (nI d)].toArray s = true := fun w h => hts w (List.mem_cons_of_mem _ h)
  have hown : s.vm.findClass R_R = some m.cls := findClass_of_methodNamed B.named
  have hlocks := B.notSynchronized
  subst hsz
  have hD := hD0.self (sz := s.heap.size)
  unfold rw_Qv
  generalize hAe : va_A (wR ad ca P S G) s.heap.size = A at hD ⊢
  have hA : ∀ q : Nat, s.heap.size ≤ q → A q := fun q h => by rw [← hAe]; exact Or.inr h
  have hS : va_S A s.heap s.heap [] := va_S.rf
  have hl := lv_entry ([.ref (ad 0), .int (nI d)]) (n := 2) (Nat.le_of_ble_eq_true rfl)
  rw [lg_entry_eq]
  generalize (lg_sl ([.ref (ad 0), .int (nI d)]) ++ List.replicate (2 - (lg_sl ([.ref (ad 0), .int (nI d)])).length) Slot.unset).toArray = ls at hl ⊢
  have hl : lv_has ls 2 [(0, .ref (ad 0)), (1, .int (nI d))] := hl
  refine nr_start hP hS (fun H locs hP hS => ?_)
  obtain ⟨h00, h01, h02, h03, h04, h05, hp1, hp2, hp3, hp4, hp5, hp6⟩ := id hP0
  obtain ⟨g00, g01, g02, g03, g04, g05, g06, hs1, hs2, hs3, hs4, hs5, hs6, hs7⟩ := id hS0
  obtain ⟨k00, k01, hg1, hg2⟩ := id hG0
  refine lv_iload_n hx hb d_R_days_0 rfl (lv_at hl 1 rfl) ?_
  refine nr_iconst hx hb 0 d_R_days_1 (by decide) ?_
  refine nr_bipush hx hb 7 d_R_days_2 (by decide) ?_
  refine nr_callv (wr := ([0, 1, 2, 3, 4, 5, 6, 7, 8, 9, 10, 11, 12, 13, 14, 15, 16, 17] : List Nat).filterMap (fun i => (wR ad ca P S G : va_W)[i]?)) (va_runS (As := [.int (nI d), .int (nI 0), .int (nI 7)]) (rest := []) ⟨hx, hb, hml, hown, hts⟩ (r_R_refuseOutside l D d 0 7 (by omega) (by omega) (by omega) H.size) ⟨callB_of 3 hts (gTB q_R_refuseOutside) rfl rfl rfl (htb _ q1) (htb _ q244) hd_R_refuseOutside ⟨Nat.le_of_ble_eq_true rfl, Nat.le_of_ble_eq_true rfl⟩, (htb _ q245)⟩ ⟨rw_blind, rw_pre hN (hP.sub (ws' := []) [] rfl) (hK.sub (tys' := []) [] rfl) (hD.sub (ws' := []) [] (by decide) rfl)⟩ rfl rfl hl.1 rfl (lv_room (Nat.le_of_ble_eq_true rfl)) d_R_days_4 ⟨Nat.le_of_ble_eq_true rfl, Nat.le_of_ble_eq_true rfl⟩) hP hD hS hA [] [0, 1, 2, 3, 4, 5, 6, 7, 8, 9, 10, 11, 12, 13, 14, 15, 16, 17] rfl rfl (by decide) (by decide) (fun u_1 H locs hu_1 hP hD hS => ?_)
  replace hP := hP.sub (ws' := wR ad ca P S G) [0, 1, 2, 3, 4, 5, 6, 7, 8, 9, 10, 11, 12, 13, 14, 15, 16, 17] rfl
  replace hD := hD.sub (ws' := wR ad ca P S G) [0, 1, 2, 3, 4, 5, 6, 7, 8, 9, 10, 11, 12, 13, 14, 15, 16, 17] (by decide) rfl
  refine lv_aload_n hx hb d_R_days_7 rfl (lv_at hl 0 rfl) ?_
  refine va_get (D := D) (ci := 2) (v := .ref (ad 1)) (C := R_R) (T := F_R) (N := 6) hx hb htb u_R hown hK hP 15 rfl rfl 0 (by decide) (htb _ q134) (fun _ h9 => h9) rfl d_R_days_8 ?_
  refine lv_iload_n hx hb d_R_days_11 rfl (lv_at hl 1 rfl) ?_
  refine nr_callv (wr := ([7, 8, 9, 10, 11, 12, 13, 14, 15, 16, 17] : List Nat).filterMap (fun i => (wR ad ca P S G : va_W)[i]?)) (va_runVN (As := [.int (nI d)]) (rest := []) ⟨hx, hb, hml, hown, hts⟩ (c_P_startDays l D ad ca P d H.size) ⟨va_cnB 1 hts (gTB q_P_startDays) rfl rfl rfl (hN.nw q317 rfl) (htb _ q2) hd_P_startDays ⟨Nat.le_of_ble_eq_true rfl, Nat.le_of_ble_eq_true rfl⟩, (htb _ q319), (htb _ sel_P_startDays)⟩ ⟨rw_blind, va_recv (hK.sub (tys' := []) [] rfl) hP (ci := 0) (q0 := 0) rfl rfl, rw_pre hN (hP.sub (ws' := (wP ad ca P)) [0, 1, 2, 3, 4, 5, 6] rfl) (hK.sub (tys' := (tP ca)) [0, 1, 2, 3, 4, 5] rfl) (hD.sub (ws' := (wP ad ca P)) [0, 1, 2, 3, 4, 5, 6] (by decide) rfl)⟩ rfl rfl hl.1 rfl (lv_room (Nat.le_of_ble_eq_true rfl)) d_R_days_12 ⟨Nat.le_of_ble_eq_true rfl, Nat.le_of_ble_eq_true rfl⟩) hP hD hS hA [0, 1, 2, 3, 4, 5, 6] [7, 8, 9, 10, 11, 12, 13, 14, 15, 16, 17] rfl rfl (by decide) (by decide) (fun u_2 H locs hu_2 hP hD hS => ?_)
  replace hP := hP.sub (ws' := wR ad ca (sdP P d) S G) [11, 12, 13, 14, 15, 16, 17, 0, 1, 2, 3, 4, 5, 6, 7, 8, 9, 10] rfl
  replace hD := hD.sub (ws' := wR ad ca (sdP P d) S G) [11, 12, 13, 14, 15, 16, 17, 0, 1, 2, 3, 4, 5, 6, 7, 8, 9, 10] (by decide) rfl
  refine lv_aload_n hx hb d_R_days_15 rfl (lv_at hl 0 rfl) ?_
  refine va_get (D := D) (ci := 2) (v := .ref (ad 16)) (C := R_R) (T := F_R) (N := 6) hx hb htb u_R hown hK hP 15 rfl rfl 2 (by decide) (htb _ q136) (fun _ h9 => h9) rfl d_R_days_16 ?_
  refine nr_callv (wr := ([0, 1, 2, 3, 4, 5, 6, 7, 8, 9, 10, 11, 12, 13, 14, 15, 17] : List Nat).filterMap (fun i => (wR ad ca (sdP P d) S G : va_W)[i]?)) (va_runS (As := [.ref (ad 16)]) (rest := []) ⟨hx, hb, hml, hown, hts⟩ (c_R_clearRow l D (ad 16) (ca 13) 42 (by decide) (G 1) H.size) ⟨callB_of 1 hts (gTB q_R_clearRow) rfl rfl rfl (htb _ q1) (htb _ q324) hd_R_clearRow ⟨Nat.le_of_ble_eq_true rfl, Nat.le_of_ble_eq_true rfl⟩, (htb _ q322)⟩ ⟨rw_blind, rw_pre hN (hP.sub (ws' := [(ad 16, .inl (ca 13, 42, .inl (fun k => nI (G 1 k))))]) [16] rfl) (hK.sub (tys' := [(ca 13, .int)]) [13] rfl) (hD.sub (ws' := [(ad 16, .inl (ca 13, 42, .inl (fun k => nI (G 1 k))))]) [16] (by decide) rfl)⟩ rfl rfl hl.1 rfl (lv_room (Nat.le_of_ble_eq_true rfl)) d_R_days_19 ⟨Nat.le_of_ble_eq_true rfl, Nat.le_of_ble_eq_true rfl⟩) hP hD hS hA [16] [0, 1, 2, 3, 4, 5, 6, 7, 8, 9, 10, 11, 12, 13, 14, 15, 17] rfl rfl (by decide) (by decide) (fun u_3 H locs hu_3 hP hD hS => ?_)
  replace hP := hP.sub (ws' := wR ad ca (sdP P d) S (upr G 1 (fun _ => 0))) [0, 1, 2, 3, 4, 5, 6, 7, 8, 9, 10, 11, 12, 13, 14, 15, 17, 16] rfl
  replace hD := hD.sub (ws' := wR ad ca (sdP P d) S (upr G 1 (fun _ => 0))) [0, 1, 2, 3, 4, 5, 6, 7, 8, 9, 10, 11, 12, 13, 14, 15, 17, 16] (by decide) rfl
  refine lv_aload_n hx hb d_R_days_22 rfl (lv_at hl 0 rfl) ?_
  refine nr_iconst hx hb 0 d_R_days_23 (by decide) ?_
  refine va_put (D := D) (ci := 2) (v := .int (nI 0)) (ty := .int) (C := R_R) (T := F_R) (N := 6) hx hb htb u_R t_R t_R_ok n_R hown hK hP hD hS 15 rfl rfl 4 (by decide) (htb _ q138) (fun _ h9 => h9) rfl (by decide +kernel) rfl rfl (Nat.le_of_ble_eq_true rfl) d_R_days_24 (fun H locs hP hD hS => ?_)
  replace hP : va_P D cls (wR ad ca (sdP P d) S (up2 (upr G 1 (fun _ => 0)) 0 0 0)) H := hP
  replace hD : va_D A (wR ad ca (sdP P d) S (up2 (upr G 1 (fun _ => 0)) 0 0 0)) := hD
  exact W.vret hx hb hr (fun t ht hW => ⟨⟨(), rfl, trivial, by rw [ht]; exact hP, hD⟩, hS.F ht⟩) hS.2.2 d_R_days_27
set_option maxHeartbeats 4000000 in
set_option maxRecDepth 100000 in
theorem r_R_person (l : Launch) (D : va_G) (ad : Nat → Nat) (ca : Nat → ClassId) (P S G : Nat → Nat → Nat) (hP0 : okP P) (hS0 : okS S) (hG0 : okG G) (x y : Nat) (hx15 : x ≤ 15) (hy10 : y ≤ 10000) (hn6 : P 0 0 < 6) (sz : Nat) : Met l y_R_person w_R_person { frames := 1, cells := 0, slots := 0, locals := 23 } (rw_P [.ref (ad 0), .int (nI x), .int (nI y)] D (wR ad ca P S G) (tR ca) sz) (rw_Qi (fun (r : Int32) (u : Unit) => r = nI (P 0 0)) D (wR ad ca P S G) (fun u => wR ad ca (up2 (up2 (up2 P 1 (P 0 0) x) 2 (P 0 0) y) 0 0 (P 0 0 + 1)) S G) sz) 0 0 (va_A (wR ad ca P S G) sz) := by
  refine Met.ofW (cc := b_R_person) (maxL := 3) (ret := (some .int)) (by decide) rfl ?_
  intro p e s m args below meth c s₁ B hml hv
  obtain ⟨rfl, hsz, hN, hP, hK, hD0⟩ := hv
  have hx := B.exec
  have hb := B.bytes
  have hr := B.returns
  have hts := atoms_spec (ws := w_R_person) B.pre
  have htb : ∀ w ∈ TBG, w.before [.ref (ad 0), .int (nI x), .int (nI y)].toArray s = true := fun w h => hts w (List.mem_cons_of_mem _ h)
  have hown : s.vm.findClass R_R = some m.cls := findClass_of_methodNamed B.named
  have hlocks := B.notSynchronized
  subst hsz
  have hD := hD0.self (sz := s.heap.size)
  unfold rw_Qi
  generalize hAe : va_A (wR ad ca P S G) s.heap.size = A at hD ⊢
  have hA : ∀ q : Nat, s.heap.size ≤ q → A q := fun q h => by rw [← hAe]; exact Or.inr h
  have hS : va_S A s.heap s.heap [] := va_S.rf
  have hl := lv_entry ([.ref (ad 0), .int (nI x), .int (nI y)]) (n := 3) (Nat.le_of_ble_eq_true rfl)
  rw [lg_entry_eq]
  generalize (lg_sl ([.ref (ad 0), .int (nI x), .int (nI y)]) ++ List.replicate (3 - (lg_sl ([.ref (ad 0), .int (nI x), .int (nI y)])).length) Slot.unset).toArray = ls at hl ⊢
  have hl : lv_has ls 3 [(0, .ref (ad 0)), (1, .int (nI x)), (2, .int (nI y))] := hl
  refine nr_start hP hS (fun H locs hP hS => ?_)
  obtain ⟨h00, h01, h02, h03, h04, h05, hp1, hp2, hp3, hp4, hp5, hp6⟩ := id hP0
  obtain ⟨g00, g01, g02, g03, g04, g05, g06, hs1, hs2, hs3, hs4, hs5, hs6, hs7⟩ := id hS0
  obtain ⟨k00, k01, hg1, hg2⟩ := id hG0
  refine lv_iload_n hx hb d_R_person_0 rfl (lv_at hl 1 rfl) ?_
  refine nr_iconst hx hb 0 d_R_person_1 (by decide) ?_
  refine nr_bipush hx hb 15 d_R_person_2 (by decide) ?_
  refine nr_callv (wr := ([0, 1, 2, 3, 4, 5, 6, 7, 8, 9, 10, 11, 12, 13, 14, 15, 16, 17] : List Nat).filterMap (fun i => (wR ad ca P S G : va_W)[i]?)) (va_runS (As := [.int (nI x), .int (nI 0), .int (nI 15)]) (rest := []) ⟨hx, hb, hml, hown, hts⟩ (r_R_refuseOutside l D x 0 15 (by omega) (by omega) (by omega) H.size) ⟨callB_of 3 hts (gTB q_R_refuseOutside) rfl rfl rfl (htb _ q1) (htb _ q244) hd_R_refuseOutside ⟨Nat.le_of_ble_eq_true rfl, Nat.le_of_ble_eq_true rfl⟩, (htb _ q245)⟩ ⟨rw_blind, rw_pre hN (hP.sub (ws' := []) [] rfl) (hK.sub (tys' := []) [] rfl) (hD.sub (ws' := []) [] (by decide) rfl)⟩ rfl rfl hl.1 rfl (lv_room (Nat.le_of_ble_eq_true rfl)) d_R_person_4 ⟨Nat.le_of_ble_eq_true rfl, Nat.le_of_ble_eq_true rfl⟩) hP hD hS hA [] [0, 1, 2, 3, 4, 5, 6, 7, 8, 9, 10, 11, 12, 13, 14, 15, 16, 17] rfl rfl (by decide) (by decide) (fun u_1 H locs hu_1 hP hD hS => ?_)
  replace hP := hP.sub (ws' := wR ad ca P S G) [0, 1, 2, 3, 4, 5, 6, 7, 8, 9, 10, 11, 12, 13, 14, 15, 16, 17] rfl
  replace hD := hD.sub (ws' := wR ad ca P S G) [0, 1, 2, 3, 4, 5, 6, 7, 8, 9, 10, 11, 12, 13, 14, 15, 16, 17] (by decide) rfl
  refine lv_iload_n hx hb d_R_person_7 rfl (lv_at hl 2 rfl) ?_
  refine nr_iconst hx hb 0 d_R_person_8 (by decide) ?_
  refine nr_sipush hx hb 10000 d_R_person_9 (by decide) ?_
  refine nr_callv (wr := ([0, 1, 2, 3, 4, 5, 6, 7, 8, 9, 10, 11, 12, 13, 14, 15, 16, 17] : List Nat).filterMap (fun i => (wR ad ca P S G : va_W)[i]?)) (va_runS (As := [.int (nI y), .int (nI 0), .int (nI 10000)]) (rest := []) ⟨hx, hb, hml, hown, hts⟩ (r_R_refuseOutside l D y 0 10000 (by omega) (by omega) (by omega) H.size) ⟨callB_of 3 hts (gTB q_R_refuseOutside) rfl rfl rfl (htb _ q1) (htb _ q244) hd_R_refuseOutside ⟨Nat.le_of_ble_eq_true rfl, Nat.le_of_ble_eq_true rfl⟩, (htb _ q245)⟩ ⟨rw_blind, rw_pre hN (hP.sub (ws' := []) [] rfl) (hK.sub (tys' := []) [] rfl) (hD.sub (ws' := []) [] (by decide) rfl)⟩ rfl rfl hl.1 rfl (lv_room (Nat.le_of_ble_eq_true rfl)) d_R_person_12 ⟨Nat.le_of_ble_eq_true rfl, Nat.le_of_ble_eq_true rfl⟩) hP hD hS hA [] [0, 1, 2, 3, 4, 5, 6, 7, 8, 9, 10, 11, 12, 13, 14, 15, 16, 17] rfl rfl (by decide) (by decide) (fun u_2 H locs hu_2 hP hD hS => ?_)
  replace hP := hP.sub (ws' := wR ad ca P S G) [0, 1, 2, 3, 4, 5, 6, 7, 8, 9, 10, 11, 12, 13, 14, 15, 16, 17] rfl
  replace hD := hD.sub (ws' := wR ad ca P S G) [0, 1, 2, 3, 4, 5, 6, 7, 8, 9, 10, 11, 12, 13, 14, 15, 16, 17] (by decide) rfl
  refine lv_aload_n hx hb d_R_person_15 rfl (lv_at hl 0 rfl) ?_
  refine va_get (D := D) (ci := 2) (v := .ref (ad 1)) (C := R_R) (T := F_R) (N := 6) hx hb htb u_R hown hK hP 15 rfl rfl 0 (by decide) (htb _ q134) (fun _ h9 => h9) rfl d_R_person_16 ?_
  refine va_getN (D := D) (ci := 0) (v := .int (nI (P 0 0))) (C := R_P) (T := F_P) (N := 12) hx hb htb u_P hown hK hP 0 rfl rfl 0 (by decide) (hN.at q30 rfl rfl) (fun _ h9 => h9) rfl d_R_person_19 ?_
  refine nr_bipush hx hb 6 d_R_person_22 (by decide) ?_
  refine nr_callv (wr := ([0, 1, 2, 3, 4, 5, 6, 7, 8, 9, 10, 11, 12, 13, 14, 15, 16, 17] : List Nat).filterMap (fun i => (wR ad ca P S G : va_W)[i]?)) (va_runS (As := [.int (nI (P 0 0)), .int (nI 6)]) (rest := []) ⟨hx, hb, hml, hown, hts⟩ (r_R_refuseFull l D (P 0 0) 6 (by omega) (by omega) H.size) ⟨callB_of 2 hts (gTB q_R_refuseFull) rfl rfl rfl (htb _ q1) (htb _ q333) hd_R_refuseFull ⟨Nat.le_of_ble_eq_true rfl, Nat.le_of_ble_eq_true rfl⟩, (htb _ q334)⟩ ⟨rw_blind, rw_pre hN (hP.sub (ws' := []) [] rfl) (hK.sub (tys' := []) [] rfl) (hD.sub (ws' := []) [] (by decide) rfl)⟩ rfl rfl hl.1 rfl (lv_room (Nat.le_of_ble_eq_true rfl)) d_R_person_24 ⟨Nat.le_of_ble_eq_true rfl, Nat.le_of_ble_eq_true rfl⟩) hP hD hS hA [] [0, 1, 2, 3, 4, 5, 6, 7, 8, 9, 10, 11, 12, 13, 14, 15, 16, 17] rfl rfl (by decide) (by decide) (fun u_3 H locs hu_3 hP hD hS => ?_)
  replace hP := hP.sub (ws' := wR ad ca P S G) [0, 1, 2, 3, 4, 5, 6, 7, 8, 9, 10, 11, 12, 13, 14, 15, 16, 17] rfl
  replace hD := hD.sub (ws' := wR ad ca P S G) [0, 1, 2, 3, 4, 5, 6, 7, 8, 9, 10, 11, 12, 13, 14, 15, 16, 17] (by decide) rfl
  refine lv_aload_n hx hb d_R_person_27 rfl (lv_at hl 0 rfl) ?_
  refine va_get (D := D) (ci := 2) (v := .ref (ad 1)) (C := R_R) (T := F_R) (N := 6) hx hb htb u_R hown hK hP 15 rfl rfl 0 (by decide) (htb _ q134) (fun _ h9 => h9) rfl d_R_person_28 ?_
  refine lv_iload_n hx hb d_R_person_31 rfl (lv_at hl 1 rfl) ?_
  refine lv_iload_n hx hb d_R_person_32 rfl (lv_at hl 2 rfl) ?_
  refine nr_callwi (wr := ([7, 8, 9, 10, 11, 12, 13, 14, 15, 16, 17] : List Nat).filterMap (fun i => (wR ad ca P S G : va_W)[i]?)) (va_runVN (As := [.int (nI x), .int (nI y)]) (rest := []) ⟨hx, hb, hml, hown, hts⟩ (c_P_addPerson l D ad ca P x y (by omega) H.size) ⟨va_cnB 2 hts (gTB q_P_addPerson) rfl rfl rfl (hN.nw q352 rfl) (htb _ q2) hd_P_addPerson ⟨Nat.le_of_ble_eq_true rfl, Nat.le_of_ble_eq_true rfl⟩, (htb _ q354), (htb _ sel_P_addPerson)⟩ ⟨rw_blind, va_recv (hK.sub (tys' := []) [] rfl) hP (ci := 0) (q0 := 0) rfl rfl, rw_pre hN (hP.sub (ws' := (wP ad ca P)) [0, 1, 2, 3, 4, 5, 6] rfl) (hK.sub (tys' := (tP ca)) [0, 1, 2, 3, 4, 5] rfl) (hD.sub (ws' := (wP ad ca P)) [0, 1, 2, 3, 4, 5, 6] (by decide) rfl)⟩ rfl rfl hl.1 rfl (lv_room (Nat.le_of_ble_eq_true rfl)) d_R_person_33 ⟨Nat.le_of_ble_eq_true rfl, Nat.le_of_ble_eq_true rfl⟩) hP hD hS hA [0, 1, 2, 3, 4, 5, 6] [7, 8, 9, 10, 11, 12, 13, 14, 15, 16, 17] rfl rfl (by decide) (by decide) (fun r_4 u_4 H locs hr_4 hP hD hS => ?_)
  subst hr_4
  replace hP := hP.sub (ws' := wR ad ca (up2 (up2 (up2 P 1 (P 0 0) x) 2 (P 0 0) y) 0 0 (P 0 0 + 1)) S G) [11, 12, 13, 14, 15, 16, 17, 0, 1, 2, 3, 4, 5, 6, 7, 8, 9, 10] rfl
  replace hD := hD.sub (ws' := wR ad ca (up2 (up2 (up2 P 1 (P 0 0) x) 2 (P 0 0) y) 0 0 (P 0 0 + 1)) S G) [11, 12, 13, 14, 15, 16, 17, 0, 1, 2, 3, 4, 5, 6, 7, 8, 9, 10] (by decide) rfl
  exact W.iret (v := (nI (P 0 0))) hx hb hr (fun t ht hW => ⟨⟨_, (), rfl, rfl, by rw [ht]; exact hP, hD⟩, hS.F ht⟩) hS.2.2 d_R_person_36
set_option maxHeartbeats 4000000 in
set_option maxRecDepth 100000 in
theorem r_R_need (l : Launch) (D : va_G) (ad : Nat → Nat) (ca : Nat → ClassId) (P S G : Nat → Nat → Nat) (hP0 : okP P) (hS0 : okS S) (hG0 : okG G) (d sf x y : Nat) (hd : d < P 0 1) (hs1_ : 1 ≤ sf) (hs3_ : sf ≤ 3) (hx6 : x ≤ 6) (hy15 : y ≤ 15) (sz : Nat) : Met l y_R_need w_R_need { frames := 2, cells := 0, slots := 0, locals := 45 } (rw_P [.ref (ad 0), .int (nI d), .int (nI sf), .int (nI x), .int (nI y)] D (wR ad ca P S G) (tR ca) sz) (rw_Qv (fun u : Unit => True) D (wR ad ca P S G) (fun u => wR ad ca (up2 (up2 P 3 (d * 4 + sf) x) 4 (d * 4 + sf) y) S G) sz) 0 0 (va_A (wR ad ca P S G) sz) := by
  refine Met.ofW (cc := b_R_need) (maxL := 5) (ret := none) (by decide) rfl ?_
  intro p e s m args below meth c s₁ B hml hv
  obtain ⟨rfl, hsz, hN, hP, hK, hD0⟩ := hv
  have hx := B.exec
  have hb := B.bytes
  have hr := B.returns
  have hts := atoms_spec (ws := w_R_need) B.pre
  have htb : ∀ w ∈ TBG, w.before [.ref (ad 0), .int (nI d), .int (nI sf), .int (nI x), .int (nI y)].toArray s = true := fun w h => hts w (List.mem_cons_of_mem _ h)
  have hown : s.vm.findClass R_R = some m.cls := findClass_of_methodNamed B.named
  have hlocks := B.notSynchronized
  subst hsz
  have hD := hD0.self (sz := s.heap.size)
  unfold rw_Qv
  generalize hAe : va_A (wR ad ca P S G) s.heap.size = A at hD ⊢
  have hA : ∀ q : Nat, s.heap.size ≤ q → A q := fun q h => by rw [← hAe]; exact Or.inr h
  have hS : va_S A s.heap s.heap [] := va_S.rf
  have hl := lv_entry ([.ref (ad 0), .int (nI d), .int (nI sf), .int (nI x), .int (nI y)]) (n := 5) (Nat.le_of_ble_eq_true rfl)
  rw [lg_entry_eq]
  generalize (lg_sl ([.ref (ad 0), .int (nI d), .int (nI sf), .int (nI x), .int (nI y)]) ++ List.replicate (5 - (lg_sl ([.ref (ad 0), .int (nI d), .int (nI sf), .int (nI x), .int (nI y)])).length) Slot.unset).toArray = ls at hl ⊢
  have hl : lv_has ls 5 [(0, .ref (ad 0)), (1, .int (nI d)), (2, .int (nI sf)), (3, .int (nI x)), (4, .int (nI y))] := hl
  refine nr_start hP hS (fun H locs hP hS => ?_)
  obtain ⟨h00, h01, h02, h03, h04, h05, hp1, hp2, hp3, hp4, hp5, hp6⟩ := id hP0
  obtain ⟨g00, g01, g02, g03, g04, g05, g06, hs1, hs2, hs3, hs4, hs5, hs6, hs7⟩ := id hS0
  obtain ⟨k00, k01, hg1, hg2⟩ := id hG0
  refine lv_aload_n hx hb d_R_need_0 rfl (lv_at hl 0 rfl) ?_
  refine lv_iload_n hx hb d_R_need_1 rfl (lv_at hl 1 rfl) ?_
  refine nr_callv (wr := ([] : va_W)) (va_runV (As := [.int (nI d)]) (rest := []) ⟨hx, hb, hml, hown, hts⟩ (r_R_refuseUnknownDay l D ad ca P S G hP0 hS0 hG0 d (by omega) H.size) ⟨callB_of 1 hts (gTB q_R_refuseUnknownDay) rfl rfl rfl (htb _ q1) (htb _ q364) hd_R_refuseUnknownDay ⟨Nat.le_of_ble_eq_true rfl, Nat.le_of_ble_eq_true rfl⟩, (htb _ q366), (htb _ sel_R_refuseUnknownDay)⟩ ⟨rw_blind, va_recv (hK.sub (tys' := []) [] rfl) hP (ci := 2) (q0 := 15) rfl rfl, rw_pre hN (hP.sub (ws' := (wR ad ca P S G)) [0, 1, 2, 3, 4, 5, 6, 7, 8, 9, 10, 11, 12, 13, 14, 15, 16, 17] rfl) (hK.sub (tys' := (tR ca)) [0, 1, 2, 3, 4, 5, 6, 7, 8, 9, 10, 11, 12, 13, 14] rfl) (hD.sub (ws' := (wR ad ca P S G)) [0, 1, 2, 3, 4, 5, 6, 7, 8, 9, 10, 11, 12, 13, 14, 15, 16, 17] (by decide) rfl)⟩ rfl rfl hl.1 rfl (lv_room (Nat.le_of_ble_eq_true rfl)) d_R_need_2 ⟨Nat.le_of_ble_eq_true rfl, Nat.le_of_ble_eq_true rfl⟩) hP hD hS hA [0, 1, 2, 3, 4, 5, 6, 7, 8, 9, 10, 11, 12, 13, 14, 15, 16, 17] [] rfl rfl (by decide) (by decide) (fun u_1 H locs hu_1 hP hD hS => ?_)
  replace hP := hP.sub (ws' := wR ad ca P S G) [0, 1, 2, 3, 4, 5, 6, 7, 8, 9, 10, 11, 12, 13, 14, 15, 16, 17] rfl
  replace hD := hD.sub (ws' := wR ad ca P S G) [0, 1, 2, 3, 4, 5, 6, 7, 8, 9, 10, 11, 12, 13, 14, 15, 16, 17] (by decide) rfl
  refine lv_iload_n hx hb d_R_need_5 rfl (lv_at hl 2 rfl) ?_
  refine nr_iconst hx hb 1 d_R_need_6 (by decide) ?_
  refine nr_iconst hx hb 3 d_R_need_7 (by decide) ?_
  refine nr_callv (wr := ([0, 1, 2, 3, 4, 5, 6, 7, 8, 9, 10, 11, 12, 13, 14, 15, 16, 17] : List Nat).filterMap (fun i => (wR ad ca P S G : va_W)[i]?)) (va_runS (As := [.int (nI sf), .int (nI 1), .int (nI 3)]) (rest := []) ⟨hx, hb, hml, hown, hts⟩ (r_R_refuseUnknown l D sf 1 3 (by omega) (by omega) (by omega) H.size) ⟨callB_of 3 hts (gTB q_R_refuseUnknown) rfl rfl rfl (htb _ q1) (htb _ q368) hd_R_refuseUnknown ⟨Nat.le_of_ble_eq_true rfl, Nat.le_of_ble_eq_true rfl⟩, (htb _ q369)⟩ ⟨rw_blind, rw_pre hN (hP.sub (ws' := []) [] rfl) (hK.sub (tys' := []) [] rfl) (hD.sub (ws' := []) [] (by decide) rfl)⟩ rfl rfl hl.1 rfl (lv_room (Nat.le_of_ble_eq_true rfl)) d_R_need_8 ⟨Nat.le_of_ble_eq_true rfl, Nat.le_of_ble_eq_true rfl⟩) hP hD hS hA [] [0, 1, 2, 3, 4, 5, 6, 7, 8, 9, 10, 11, 12, 13, 14, 15, 16, 17] rfl rfl (by decide) (by decide) (fun u_2 H locs hu_2 hP hD hS => ?_)
  replace hP := hP.sub (ws' := wR ad ca P S G) [0, 1, 2, 3, 4, 5, 6, 7, 8, 9, 10, 11, 12, 13, 14, 15, 16, 17] rfl
  replace hD := hD.sub (ws' := wR ad ca P S G) [0, 1, 2, 3, 4, 5, 6, 7, 8, 9, 10, 11, 12, 13, 14, 15, 16, 17] (by decide) rfl
  refine lv_iload_n hx hb d_R_need_11 rfl (lv_at hl 3 rfl) ?_
  refine nr_iconst hx hb 0 d_R_need_12 (by decide) ?_
  refine nr_bipush hx hb 6 d_R_need_13 (by decide) ?_
  refine nr_callv (wr := ([0, 1, 2, 3, 4, 5, 6, 7, 8, 9, 10, 11, 12, 13, 14, 15, 16, 17] : List Nat).filterMap (fun i => (wR ad ca P S G : va_W)[i]?)) (va_runS (As := [.int (nI x), .int (nI 0), .int (nI 6)]) (rest := []) ⟨hx, hb, hml, hown, hts⟩ (r_R_refuseOutside l D x 0 6 (by omega) (by omega) (by omega) H.size) ⟨callB_of 3 hts (gTB q_R_refuseOutside) rfl rfl rfl (htb _ q1) (htb _ q244) hd_R_refuseOutside ⟨Nat.le_of_ble_eq_true rfl, Nat.le_of_ble_eq_true rfl⟩, (htb _ q245)⟩ ⟨rw_blind, rw_pre hN (hP.sub (ws' := []) [] rfl) (hK.sub (tys' := []) [] rfl) (hD.sub (ws' := []) [] (by decide) rfl)⟩ rfl rfl hl.1 rfl (lv_room (Nat.le_of_ble_eq_true rfl)) d_R_need_15 ⟨Nat.le_of_ble_eq_true rfl, Nat.le_of_ble_eq_true rfl⟩) hP hD hS hA [] [0, 1, 2, 3, 4, 5, 6, 7, 8, 9, 10, 11, 12, 13, 14, 15, 16, 17] rfl rfl (by decide) (by decide) (fun u_3 H locs hu_3 hP hD hS => ?_)
  replace hP := hP.sub (ws' := wR ad ca P S G) [0, 1, 2, 3, 4, 5, 6, 7, 8, 9, 10, 11, 12, 13, 14, 15, 16, 17] rfl
  replace hD := hD.sub (ws' := wR ad ca P S G) [0, 1, 2, 3, 4, 5, 6, 7, 8, 9, 10, 11, 12, 13, 14, 15, 16, 17] (by decide) rfl
  refine lv_iload hx hb d_R_need_18 (lv_at hl 4 rfl) ?_
  refine nr_iconst hx hb 0 d_R_need_20 (by decide) ?_
  refine nr_bipush hx hb 15 d_R_need_21 (by decide) ?_
  refine nr_callv (wr := ([0, 1, 2, 3, 4, 5, 6, 7, 8, 9, 10, 11, 12, 13, 14, 15, 16, 17] : List Nat).filterMap (fun i => (wR ad ca P S G : va_W)[i]?)) (va_runS (As := [.int (nI y), .int (nI 0), .int (nI 15)]) (rest := []) ⟨hx, hb, hml, hown, hts⟩ (r_R_refuseOutside l D y 0 15 (by omega) (by omega) (by omega) H.size) ⟨callB_of 3 hts (gTB q_R_refuseOutside) rfl rfl rfl (htb _ q1) (htb _ q244) hd_R_refuseOutside ⟨Nat.le_of_ble_eq_true rfl, Nat.le_of_ble_eq_true rfl⟩, (htb _ q245)⟩ ⟨rw_blind, rw_pre hN (hP.sub (ws' := []) [] rfl) (hK.sub (tys' := []) [] rfl) (hD.sub (ws' := []) [] (by decide) rfl)⟩ rfl rfl hl.1 rfl (lv_room (Nat.le_of_ble_eq_true rfl)) d_R_need_23 ⟨Nat.le_of_ble_eq_true rfl, Nat.le_of_ble_eq_true rfl⟩) hP hD hS hA [] [0, 1, 2, 3, 4, 5, 6, 7, 8, 9, 10, 11, 12, 13, 14, 15, 16, 17] rfl rfl (by decide) (by decide) (fun u_4 H locs hu_4 hP hD hS => ?_)
  replace hP := hP.sub (ws' := wR ad ca P S G) [0, 1, 2, 3, 4, 5, 6, 7, 8, 9, 10, 11, 12, 13, 14, 15, 16, 17] rfl
  replace hD := hD.sub (ws' := wR ad ca P S G) [0, 1, 2, 3, 4, 5, 6, 7, 8, 9, 10, 11, 12, 13, 14, 15, 16, 17] (by decide) rfl
  refine lv_aload_n hx hb d_R_need_26 rfl (lv_at hl 0 rfl) ?_
  refine va_get (D := D) (ci := 2) (v := .ref (ad 1)) (C := R_R) (T := F_R) (N := 6) hx hb htb u_R hown hK hP 15 rfl rfl 0 (by decide) (htb _ q134) (fun _ h9 => h9) rfl d_R_need_27 ?_
  refine lv_iload_n hx hb d_R_need_30 rfl (lv_at hl 1 rfl) ?_
  refine lv_iload_n hx hb d_R_need_31 rfl (lv_at hl 2 rfl) ?_
  refine lv_iload_n hx hb d_R_need_32 rfl (lv_at hl 3 rfl) ?_
  refine lv_iload hx hb d_R_need_33 (lv_at hl 4 rfl) ?_
  refine nr_callv (wr := ([7, 8, 9, 10, 11, 12, 13, 14, 15, 16, 17] : List Nat).filterMap (fun i => (wR ad ca P S G : va_W)[i]?)) (va_runVN (As := [.int (nI d), .int (nI sf), .int (nI x), .int (nI y)]) (rest := []) ⟨hx, hb, hml, hown, hts⟩ (c_P_putNeed l D ad ca P d sf x y (by omega) (by omega) H.size) ⟨va_cnB 4 hts (gTB q_P_putNeed) rfl rfl rfl (hN.nw q387 rfl) (htb _ q2) hd_P_putNeed ⟨Nat.le_of_ble_eq_true rfl, Nat.le_of_ble_eq_true rfl⟩, (htb _ q389), (htb _ sel_P_putNeed)⟩ ⟨rw_blind, va_recv (hK.sub (tys' := []) [] rfl) hP (ci := 0) (q0 := 0) rfl rfl, rw_pre hN (hP.sub (ws' := (wP ad ca P)) [0, 1, 2, 3, 4, 5, 6] rfl) (hK.sub (tys' := (tP ca)) [0, 1, 2, 3, 4, 5] rfl) (hD.sub (ws' := (wP ad ca P)) [0, 1, 2, 3, 4, 5, 6] (by decide) rfl)⟩ rfl rfl hl.1 rfl (lv_room (Nat.le_of_ble_eq_true rfl)) d_R_need_35 ⟨Nat.le_of_ble_eq_true rfl, Nat.le_of_ble_eq_true rfl⟩) hP hD hS hA [0, 1, 2, 3, 4, 5, 6] [7, 8, 9, 10, 11, 12, 13, 14, 15, 16, 17] rfl rfl (by decide) (by decide) (fun u_5 H locs hu_5 hP hD hS => ?_)
  replace hP := hP.sub (ws' := wR ad ca (up2 (up2 P 3 (d * 4 + sf) x) 4 (d * 4 + sf) y) S G) [11, 12, 13, 14, 15, 16, 17, 0, 1, 2, 3, 4, 5, 6, 7, 8, 9, 10] rfl
  replace hD := hD.sub (ws' := wR ad ca (up2 (up2 P 3 (d * 4 + sf) x) 4 (d * 4 + sf) y) S G) [11, 12, 13, 14, 15, 16, 17, 0, 1, 2, 3, 4, 5, 6, 7, 8, 9, 10] (by decide) rfl
  exact W.vret hx hb hr (fun t ht hW => ⟨⟨(), rfl, trivial, by rw [ht]; exact hP, hD⟩, hS.F ht⟩) hS.2.2 d_R_need_38
set_option maxHeartbeats 4000000 in
set_option maxRecDepth 100000 in
theorem r_R_rules (l : Launch) (D : va_G) (ad : Nat → Nat) (ca : Nat → ClassId) (P S G : Nat → Nat → Nat) (hP0 : okP P) (hS0 : okS S) (hG0 : okG G) (x y z : Nat) (hx24 : x ≤ 24) (hy7 : y ≤ 7) (hz7 : z ≤ 7) (sz : Nat) : Met l y_R_rules w_R_rules { frames := 1, cells := 0, slots := 0, locals := 23 } (rw_P [.ref (ad 0), .int (nI x), .int (nI y), .int (nI z)] D (wR ad ca P S G) (tR ca) sz) (rw_Qv (fun u : Unit => True) D (wR ad ca P S G) (fun u => wR ad ca (up2 (up2 (up2 P 0 2 x) 0 3 y) 0 4 z) S G) sz) 0 0 (va_A (wR ad ca P S G) sz) := by
  refine Met.ofW (cc := b_R_rules) (maxL := 4) (ret := none) (by decide) rfl ?_
  intro p e s m args below meth c s₁ B hml hv
  obtain ⟨rfl, hsz, hN, hP, hK, hD0⟩ := hv
  have hx := B.exec
  have hb := B.bytes
  have hr := B.returns
  have hts := atoms_spec (ws := w_R_rules) B.pre
  have htb : ∀ w ∈ TBG, w.before [.ref (ad 0), .int (nI x), .int (nI y), .int (nI z)].toArray s = true := fun w h => hts w (List.mem_cons_of_mem _ h)
  have hown : s.vm.findClass R_R = some m.cls := findClass_of_methodNamed B.named
  have hlocks := B.notSynchronized
  subst hsz
  have hD := hD0.self (sz := s.heap.size)
  unfold rw_Qv
  generalize hAe : va_A (wR ad ca P S G) s.heap.size = A at hD ⊢
  have hA : ∀ q : Nat, s.heap.size ≤ q → A q := fun q h => by rw [← hAe]; exact Or.inr h
  have hS : va_S A s.heap s.heap [] := va_S.rf
  have hl := lv_entry ([.ref (ad 0), .int (nI x), .int (nI y), .int (nI z)]) (n := 4) (Nat.le_of_ble_eq_true rfl)
  rw [lg_entry_eq]
  generalize (lg_sl ([.ref (ad 0), .int (nI x), .int (nI y), .int (nI z)]) ++ List.replicate (4 - (lg_sl ([.ref (ad 0), .int (nI x), .int (nI y), .int (nI z)])).length) Slot.unset).toArray = ls at hl ⊢
  have hl : lv_has ls 4 [(0, .ref (ad 0)), (1, .int (nI x)), (2, .int (nI y)), (3, .int (nI z))] := hl
  refine nr_start hP hS (fun H locs hP hS => ?_)
  obtain ⟨h00, h01, h02, h03, h04, h05, hp1, hp2, hp3, hp4, hp5, hp6⟩ := id hP0
  obtain ⟨g00, g01, g02, g03, g04, g05, g06, hs1, hs2, hs3, hs4, hs5, hs6, hs7⟩ := id hS0
  obtain ⟨k00, k01, hg1, hg2⟩ := id hG0
  refine lv_iload_n hx hb d_R_rules_0 rfl (lv_at hl 1 rfl) ?_
  refine nr_iconst hx hb 0 d_R_rules_1 (by decide) ?_
  refine nr_bipush hx hb 24 d_R_rules_2 (by decide) ?_
  refine nr_callv (wr := ([0, 1, 2, 3, 4, 5, 6, 7, 8, 9, 10, 11, 12, 13, 14, 15, 16, 17] : List Nat).filterMap (fun i => (wR ad ca P S G : va_W)[i]?)) (va_runS (As := [.int (nI x), .int (nI 0), .int (nI 24)]) (rest := []) ⟨hx, hb, hml, hown, hts⟩ (r_R_refuseOutside l D x 0 24 (by omega) (by omega) (by omega) H.size) ⟨callB_of 3 hts (gTB q_R_refuseOutside) rfl rfl rfl (htb _ q1) (htb _ q244) hd_R_refuseOutside ⟨Nat.le_of_ble_eq_true rfl, Nat.le_of_ble_eq_true rfl⟩, (htb _ q245)⟩ ⟨rw_blind, rw_pre hN (hP.sub (ws' := []) [] rfl) (hK.sub (tys' := []) [] rfl) (hD.sub (ws' := []) [] (by decide) rfl)⟩ rfl rfl hl.1 rfl (lv_room (Nat.le_of_ble_eq_true rfl)) d_R_rules_4 ⟨Nat.le_of_ble_eq_true rfl, Nat.le_of_ble_eq_true rfl⟩) hP hD hS hA [] [0, 1, 2, 3, 4, 5, 6, 7, 8, 9, 10, 11, 12, 13, 14, 15, 16, 17] rfl rfl (by decide) (by decide) (fun u_1 H locs hu_1 hP hD hS => ?_)
  replace hP := hP.sub (ws' := wR ad ca P S G) [0, 1, 2, 3, 4, 5, 6, 7, 8, 9, 10, 11, 12, 13, 14, 15, 16, 17] rfl
  replace hD := hD.sub (ws' := wR ad ca P S G) [0, 1, 2, 3, 4, 5, 6, 7, 8, 9, 10, 11, 12, 13, 14, 15, 16, 17] (by decide) rfl
  refine lv_iload_n hx hb d_R_rules_7 rfl (lv_at hl 2 rfl) ?_
  refine nr_iconst hx hb 0 d_R_rules_8 (by decide) ?_
  refine nr_bipush hx hb 7 d_R_rules_9 (by decide) ?_
  refine nr_callv (wr := ([0, 1, 2, 3, 4, 5, 6, 7, 8, 9, 10, 11, 12, 13, 14, 15, 16, 17] : List Nat).filterMap (fun i => (wR ad ca P S G : va_W)[i]?)) (va_runS (As := [.int (nI y), .int (nI 0), .int (nI 7)]) (rest := []) ⟨hx, hb, hml, hown, hts⟩ (r_R_refuseOutside l D y 0 7 (by omega) (by omega) (by omega) H.size) ⟨callB_of 3 hts (gTB q_R_refuseOutside) rfl rfl rfl (htb _ q1) (htb _ q244) hd_R_refuseOutside ⟨Nat.le_of_ble_eq_true rfl, Nat.le_of_ble_eq_true rfl⟩, (htb _ q245)⟩ ⟨rw_blind, rw_pre hN (hP.sub (ws' := []) [] rfl) (hK.sub (tys' := []) [] rfl) (hD.sub (ws' := []) [] (by decide) rfl)⟩ rfl rfl hl.1 rfl (lv_room (Nat.le_of_ble_eq_true rfl)) d_R_rules_11 ⟨Nat.le_of_ble_eq_true rfl, Nat.le_of_ble_eq_true rfl⟩) hP hD hS hA [] [0, 1, 2, 3, 4, 5, 6, 7, 8, 9, 10, 11, 12, 13, 14, 15, 16, 17] rfl rfl (by decide) (by decide) (fun u_2 H locs hu_2 hP hD hS => ?_)
  replace hP := hP.sub (ws' := wR ad ca P S G) [0, 1, 2, 3, 4, 5, 6, 7, 8, 9, 10, 11, 12, 13, 14, 15, 16, 17] rfl
  replace hD := hD.sub (ws' := wR ad ca P S G) [0, 1, 2, 3, 4, 5, 6, 7, 8, 9, 10, 11, 12, 13, 14, 15, 16, 17] (by decide) rfl
  refine lv_iload_n hx hb d_R_rules_14 rfl (lv_at hl 3 rfl) ?_
  refine nr_iconst hx hb 0 d_R_rules_15 (by decide) ?_
  refine nr_bipush hx hb 7 d_R_rules_16 (by decide) ?_
  refine nr_callv (wr := ([0, 1, 2, 3, 4, 5, 6, 7, 8, 9, 10, 11, 12, 13, 14, 15, 16, 17] : List Nat).filterMap (fun i => (wR ad ca P S G : va_W)[i]?)) (va_runS (As := [.int (nI z), .int (nI 0), .int (nI 7)]) (rest := []) ⟨hx, hb, hml, hown, hts⟩ (r_R_refuseOutside l D z 0 7 (by omega) (by omega) (by omega) H.size) ⟨callB_of 3 hts (gTB q_R_refuseOutside) rfl rfl rfl (htb _ q1) (htb _ q244) hd_R_refuseOutside ⟨Nat.le_of_ble_eq_true rfl, Nat.le_of_ble_eq_true rfl⟩, (htb _ q245)⟩ ⟨rw_blind, rw_pre hN (hP.sub (ws' := []) [] rfl) (hK.sub (tys' := []) [] rfl) (hD.sub (ws' := []) [] (by decide) rfl)⟩ rfl rfl hl.1 rfl (lv_room (Nat.le_of_ble_eq_true rfl)) d_R_rules_18 ⟨Nat.le_of_ble_eq_true rfl, Nat.le_of_ble_eq_true rfl⟩) hP hD hS hA [] [0, 1, 2, 3, 4, 5, 6, 7, 8, 9, 10, 11, 12, 13, 14, 15, 16, 17] rfl rfl (by decide) (by decide) (fun u_3 H locs hu_3 hP hD hS => ?_)
  replace hP := hP.sub (ws' := wR ad ca P S G) [0, 1, 2, 3, 4, 5, 6, 7, 8, 9, 10, 11, 12, 13, 14, 15, 16, 17] rfl
  replace hD := hD.sub (ws' := wR ad ca P S G) [0, 1, 2, 3, 4, 5, 6, 7, 8, 9, 10, 11, 12, 13, 14, 15, 16, 17] (by decide) rfl
  refine lv_aload_n hx hb d_R_rules_21 rfl (lv_at hl 0 rfl) ?_
  refine va_get (D := D) (ci := 2) (v := .ref (ad 1)) (C := R_R) (T := F_R) (N := 6) hx hb htb u_R hown hK hP 15 rfl rfl 0 (by decide) (htb _ q134) (fun _ h9 => h9) rfl d_R_rules_22 ?_
  refine lv_iload_n hx hb d_R_rules_25 rfl (lv_at hl 1 rfl) ?_
  refine lv_iload_n hx hb d_R_rules_26 rfl (lv_at hl 2 rfl) ?_
  refine lv_iload_n hx hb d_R_rules_27 rfl (lv_at hl 3 rfl) ?_
  refine nr_callv (wr := ([7, 8, 9, 10, 11, 12, 13, 14, 15, 16, 17] : List Nat).filterMap (fun i => (wR ad ca P S G : va_W)[i]?)) (va_runVN (As := [.int (nI x), .int (nI y), .int (nI z)]) (rest := []) ⟨hx, hb, hml, hown, hts⟩ (c_P_putRules l D ad ca P x y z H.size) ⟨va_cnB 3 hts (gTB q_P_putRules) rfl rfl rfl (hN.nw q398 rfl) (htb _ q2) hd_P_putRules ⟨Nat.le_of_ble_eq_true rfl, Nat.le_of_ble_eq_true rfl⟩, (htb _ q400), (htb _ sel_P_putRules)⟩ ⟨rw_blind, va_recv (hK.sub (tys' := []) [] rfl) hP (ci := 0) (q0 := 0) rfl rfl, rw_pre hN (hP.sub (ws' := (wP ad ca P)) [0, 1, 2, 3, 4, 5, 6] rfl) (hK.sub (tys' := (tP ca)) [0, 1, 2, 3, 4, 5] rfl) (hD.sub (ws' := (wP ad ca P)) [0, 1, 2, 3, 4, 5, 6] (by decide) rfl)⟩ rfl rfl hl.1 rfl (lv_room (Nat.le_of_ble_eq_true rfl)) d_R_rules_28 ⟨Nat.le_of_ble_eq_true rfl, Nat.le_of_ble_eq_true rfl⟩) hP hD hS hA [0, 1, 2, 3, 4, 5, 6] [7, 8, 9, 10, 11, 12, 13, 14, 15, 16, 17] rfl rfl (by decide) (by decide) (fun u_4 H locs hu_4 hP hD hS => ?_)
  replace hP := hP.sub (ws' := wR ad ca (up2 (up2 (up2 P 0 2 x) 0 3 y) 0 4 z) S G) [11, 12, 13, 14, 15, 16, 17, 0, 1, 2, 3, 4, 5, 6, 7, 8, 9, 10] rfl
  replace hD := hD.sub (ws' := wR ad ca (up2 (up2 (up2 P 0 2 x) 0 3 y) 0 4 z) S G) [11, 12, 13, 14, 15, 16, 17, 0, 1, 2, 3, 4, 5, 6, 7, 8, 9, 10] (by decide) rfl
  exact W.vret hx hb hr (fun t ht hW => ⟨⟨(), rfl, trivial, by rw [ht]; exact hP, hD⟩, hS.F ht⟩) hS.2.2 d_R_rules_31
set_option maxHeartbeats 4000000 in
set_option maxRecDepth 100000 in
theorem r_R_bar (l : Launch) (D : va_G) (ad : Nat → Nat) (ca : Nat → ClassId) (P S G : Nat → Nat → Nat) (hP0 : okP P) (hS0 : okS S) (hG0 : okG G) (p1 d sf b : Nat) (hp : p1 < P 0 0) (hd : d < P 0 1) (hs1_ : 1 ≤ sf) (hs3_ : sf ≤ 3) (hb1 : b ≤ 1) (sz : Nat) : Met l y_R_bar w_R_bar { frames := 2, cells := 0, slots := 0, locals := 43 } (rw_P [.ref (ad 0), .int (nI p1), .int (nI d), .int (nI sf), .int (nI b)] D (wR ad ca P S G) (tR ca) sz) (rw_Qv (fun u : Unit => True) D (wR ad ca P S G) (fun u => wR ad ca (up2 P 5 ((d * 6 + p1) * 4 + sf) b) S G) sz) 0 0 (va_A (wR ad ca P S G) sz) := by
  refine Met.ofW (cc := b_R_bar) (maxL := 5) (ret := none) (by decide) rfl ?_
  intro p e s m args below meth c s₁ B hml hv
  obtain ⟨rfl, hsz, hN, hP, hK, hD0⟩ := hv
  have hx := B.exec
  have hb := B.bytes
  have hr := B.returns
  have hts := atoms_spec (ws := w_R_bar) B.pre
  have htb : ∀ w ∈ TBG, w.before [.ref (ad 0), .int (nI p1), .int (nI d), .int (nI sf), .int (nI b)].toArray s = true := fun w h => hts w (List.mem_cons_of_mem _ h)
  have hown : s.vm.findClass R_R = some m.cls := findClass_of_methodNamed B.named
  have hlocks := B.notSynchronized
  subst hsz
  have hD := hD0.self (sz := s.heap.size)
  unfold rw_Qv
  generalize hAe : va_A (wR ad ca P S G) s.heap.size = A at hD ⊢
  have hA : ∀ q : Nat, s.heap.size ≤ q → A q := fun q h => by rw [← hAe]; exact Or.inr h
  have hS : va_S A s.heap s.heap [] := va_S.rf
  have hl := lv_entry ([.ref (ad 0), .int (nI p1), .int (nI d), .int (nI sf), .int (nI b)]) (n := 5) (Nat.le_of_ble_eq_true rfl)
  rw [lg_entry_eq]
  generalize (lg_sl ([.ref (ad 0), .int (nI p1), .int (nI d), .int (nI sf), .int (nI b)]) ++ List.replicate (5 - (lg_sl ([.ref (ad 0), .int (nI p1), .int (nI d), .int (nI sf), .int (nI b)])).length) Slot.unset).toArray = ls at hl ⊢
  have hl : lv_has ls 5 [(0, .ref (ad 0)), (1, .int (nI p1)), (2, .int (nI d)), (3, .int (nI sf)), (4, .int (nI b))] := hl
  refine nr_start hP hS (fun H locs hP hS => ?_)
  obtain ⟨h00, h01, h02, h03, h04, h05, hp1, hp2, hp3, hp4, hp5, hp6⟩ := id hP0
  obtain ⟨g00, g01, g02, g03, g04, g05, g06, hs1, hs2, hs3, hs4, hs5, hs6, hs7⟩ := id hS0
  obtain ⟨k00, k01, hg1, hg2⟩ := id hG0
  refine lv_aload_n hx hb d_R_bar_0 rfl (lv_at hl 0 rfl) ?_
  refine lv_iload_n hx hb d_R_bar_1 rfl (lv_at hl 1 rfl) ?_
  refine nr_callv (wr := ([] : va_W)) (va_runV (As := [.int (nI p1)]) (rest := []) ⟨hx, hb, hml, hown, hts⟩ (r_R_refuseUnknownPerson l D ad ca P S G hP0 hS0 hG0 p1 (by omega) H.size) ⟨callB_of 1 hts (gTB q_R_refuseUnknownPerson) rfl rfl rfl (htb _ q1) (htb _ q409) hd_R_refuseUnknownPerson ⟨Nat.le_of_ble_eq_true rfl, Nat.le_of_ble_eq_true rfl⟩, (htb _ q411), (htb _ sel_R_refuseUnknownPerson)⟩ ⟨rw_blind, va_recv (hK.sub (tys' := []) [] rfl) hP (ci := 2) (q0 := 15) rfl rfl, rw_pre hN (hP.sub (ws' := (wR ad ca P S G)) [0, 1, 2, 3, 4, 5, 6, 7, 8, 9, 10, 11, 12, 13, 14, 15, 16, 17] rfl) (hK.sub (tys' := (tR ca)) [0, 1, 2, 3, 4, 5, 6, 7, 8, 9, 10, 11, 12, 13, 14] rfl) (hD.sub (ws' := (wR ad ca P S G)) [0, 1, 2, 3, 4, 5, 6, 7, 8, 9, 10, 11, 12, 13, 14, 15, 16, 17] (by decide) rfl)⟩ rfl rfl hl.1 rfl (lv_room (Nat.le_of_ble_eq_true rfl)) d_R_bar_2 ⟨Nat.le_of_ble_eq_true rfl, Nat.le_of_ble_eq_true rfl⟩) hP hD hS hA [0, 1, 2, 3, 4, 5, 6, 7, 8, 9, 10, 11, 12, 13, 14, 15, 16, 17] [] rfl rfl (by decide) (by decide) (fun u_1 H locs hu_1 hP hD hS => ?_)
  replace hP := hP.sub (ws' := wR ad ca P S G) [0, 1, 2, 3, 4, 5, 6, 7, 8, 9, 10, 11, 12, 13, 14, 15, 16, 17] rfl
  replace hD := hD.sub (ws' := wR ad ca P S G) [0, 1, 2, 3, 4, 5, 6, 7, 8, 9, 10, 11, 12, 13, 14, 15, 16, 17] (by decide) rfl
  refine lv_aload_n hx hb d_R_bar_5 rfl (lv_at hl 0 rfl) ?_
  refine lv_iload_n hx hb d_R_bar_6 rfl (lv_at hl 2 rfl) ?_
  refine nr_callv (wr := ([] : va_W)) (va_runV (As := [.int (nI d)]) (rest := []) ⟨hx, hb, hml, hown, hts⟩ (r_R_refuseUnknownDay l D ad ca P S G hP0 hS0 hG0 d (by omega) H.size) ⟨callB_of 1 hts (gTB q_R_refuseUnknownDay) rfl rfl rfl (htb _ q1) (htb _ q364) hd_R_refuseUnknownDay ⟨Nat.le_of_ble_eq_true rfl, Nat.le_of_ble_eq_true rfl⟩, (htb _ q366), (htb _ sel_R_refuseUnknownDay)⟩ ⟨rw_blind, va_recv (hK.sub (tys' := []) [] rfl) hP (ci := 2) (q0 := 15) rfl rfl, rw_pre hN (hP.sub (ws' := (wR ad ca P S G)) [0, 1, 2, 3, 4, 5, 6, 7, 8, 9, 10, 11, 12, 13, 14, 15, 16, 17] rfl) (hK.sub (tys' := (tR ca)) [0, 1, 2, 3, 4, 5, 6, 7, 8, 9, 10, 11, 12, 13, 14] rfl) (hD.sub (ws' := (wR ad ca P S G)) [0, 1, 2, 3, 4, 5, 6, 7, 8, 9, 10, 11, 12, 13, 14, 15, 16, 17] (by decide) rfl)⟩ rfl rfl hl.1 rfl (lv_room (Nat.le_of_ble_eq_true rfl)) d_R_bar_7 ⟨Nat.le_of_ble_eq_true rfl, Nat.le_of_ble_eq_true rfl⟩) hP hD hS hA [0, 1, 2, 3, 4, 5, 6, 7, 8, 9, 10, 11, 12, 13, 14, 15, 16, 17] [] rfl rfl (by decide) (by decide) (fun u_2 H locs hu_2 hP hD hS => ?_)
  replace hP := hP.sub (ws' := wR ad ca P S G) [0, 1, 2, 3, 4, 5, 6, 7, 8, 9, 10, 11, 12, 13, 14, 15, 16, 17] rfl
  replace hD := hD.sub (ws' := wR ad ca P S G) [0, 1, 2, 3, 4, 5, 6, 7, 8, 9, 10, 11, 12, 13, 14, 15, 16, 17] (by decide) rfl
  refine lv_iload_n hx hb d_R_bar_10 rfl (lv_at hl 3 rfl) ?_
  refine nr_iconst hx hb 1 d_R_bar_11 (by decide) ?_
  refine nr_iconst hx hb 3 d_R_bar_12 (by decide) ?_
  refine nr_callv (wr := ([0, 1, 2, 3, 4, 5, 6, 7, 8, 9, 10, 11, 12, 13, 14, 15, 16, 17] : List Nat).filterMap (fun i => (wR ad ca P S G : va_W)[i]?)) (va_runS (As := [.int (nI sf), .int (nI 1), .int (nI 3)]) (rest := []) ⟨hx, hb, hml, hown, hts⟩ (r_R_refuseUnknown l D sf 1 3 (by omega) (by omega) (by omega) H.size) ⟨callB_of 3 hts (gTB q_R_refuseUnknown) rfl rfl rfl (htb _ q1) (htb _ q368) hd_R_refuseUnknown ⟨Nat.le_of_ble_eq_true rfl, Nat.le_of_ble_eq_true rfl⟩, (htb _ q369)⟩ ⟨rw_blind, rw_pre hN (hP.sub (ws' := []) [] rfl) (hK.sub (tys' := []) [] rfl) (hD.sub (ws' := []) [] (by decide) rfl)⟩ rfl rfl hl.1 rfl (lv_room (Nat.le_of_ble_eq_true rfl)) d_R_bar_13 ⟨Nat.le_of_ble_eq_true rfl, Nat.le_of_ble_eq_true rfl⟩) hP hD hS hA [] [0, 1, 2, 3, 4, 5, 6, 7, 8, 9, 10, 11, 12, 13, 14, 15, 16, 17] rfl rfl (by decide) (by decide) (fun u_3 H locs hu_3 hP hD hS => ?_)
  replace hP := hP.sub (ws' := wR ad ca P S G) [0, 1, 2, 3, 4, 5, 6, 7, 8, 9, 10, 11, 12, 13, 14, 15, 16, 17] rfl
  replace hD := hD.sub (ws' := wR ad ca P S G) [0, 1, 2, 3, 4, 5, 6, 7, 8, 9, 10, 11, 12, 13, 14, 15, 16, 17] (by decide) rfl
  refine lv_aload_n hx hb d_R_bar_16 rfl (lv_at hl 0 rfl) ?_
  refine va_get (D := D) (ci := 2) (v := .ref (ad 1)) (C := R_R) (T := F_R) (N := 6) hx hb htb u_R hown hK hP 15 rfl rfl 0 (by decide) (htb _ q134) (fun _ h9 => h9) rfl d_R_bar_17 ?_
  refine va_getN (D := D) (ci := 0) (v := .ref (ad 7)) (C := R_P) (T := F_P) (N := 12) hx hb htb u_P hown hK hP 0 rfl rfl 10 (by decide) (hN.at q46 rfl rfl) (fun _ h9 => h9) rfl d_R_bar_20 ?_
  refine lv_iload_n hx hb d_R_bar_23 rfl (lv_at hl 1 rfl) ?_
  refine lv_iload_n hx hb d_R_bar_24 rfl (lv_at hl 2 rfl) ?_
  refine lv_iload_n hx hb d_R_bar_25 rfl (lv_at hl 3 rfl) ?_
  refine nr_calli (va_runS (As := [.int (nI p1), .int (nI d), .int (nI sf)]) (rest := [.ref (ad 7)]) ⟨hx, hb, hml, hown, hts⟩ (c_R_choice l D p1 d sf) ⟨callB_of 3 hts (gTB q_R_choice) rfl rfl rfl (htb _ q1) (htb _ q413) hd_R_choice ⟨Nat.le_of_ble_eq_true rfl, Nat.le_of_ble_eq_true rfl⟩, (htb _ q206)⟩ ⟨ro_blind, ro_pre hN (hP.sub (ws' := []) [] rfl) (hK.sub (tys' := []) [] rfl)⟩ rfl rfl hl.1 rfl (lv_room (Nat.le_of_ble_eq_true rfl)) d_R_bar_26 ⟨Nat.le_of_ble_eq_true rfl, Nat.le_of_ble_eq_true rfl⟩) (fun r_4 hr_4 => ?_)
  subst hr_4
  refine lv_iload hx hb d_R_bar_29 (lv_at hl 4 rfl) ?_
  refine nr_zast hx hb hK hP hD hS 5 4 rfl rfl (by omega) (by decide) (by omega) d_R_bar_31 (fun H locs hP hD hS => ?_)
  replace hP : va_P D cls (wR ad ca (up2 P 5 ((d * 6 + p1) * 4 + sf) b) S G) H := hP
  replace hD : va_D A (wR ad ca (up2 P 5 ((d * 6 + p1) * 4 + sf) b) S G) := hD
  exact W.vret hx hb hr (fun t ht hW => ⟨⟨(), rfl, trivial, by rw [ht]; exact hP, hD⟩, hS.F ht⟩) hS.2.2 d_R_bar_32
set_option maxHeartbeats 4000000 in
set_option maxRecDepth 100000 in
theorem r_R_wish (l : Launch) (D : va_G) (ad : Nat → Nat) (ca : Nat → ClassId) (P S G : Nat → Nat → Nat) (hP0 : okP P) (hS0 : okS S) (hG0 : okG G) (p1 d sf b wt : Nat) (hp : p1 < P 0 0) (hd : d < P 0 1) (hs3_ : sf ≤ 3) (hb1 : b ≤ 1) (hw1 : 1 ≤ wt) (hw2 : wt ≤ 100) (hfr : G 0 0 ≤ d) (hw20 : P 0 5 < 20) (sz : Nat) : Met l y_R_wish w_R_wish { frames := 2, cells := 0, slots := 0, locals := 43 } (rw_P [.ref (ad 0), .int (nI p1), .int (nI d), .int (nI sf), .int (nI b), .int (nI wt)] D (wR ad ca P S G) (tR ca) sz) (rw_Qi (fun (r : Int32) (u : Unit) => r = nI (P 0 5)) D (wR ad ca P S G) (fun u => wR ad ca (up2 (aw ((d * 6 + p1) * 4 + 0) sf b wt 4 0 P) 0 5 (P 0 5 + 1)) S G) sz) 0 0 (va_A (wR ad ca P S G) sz) := by
  refine Met.ofW (cc := b_R_wish) (maxL := 6) (ret := (some .int)) (by decide) rfl ?_
  intro p e s m args below meth c s₁ B hml hv
  obtain ⟨rfl, hsz, hN, hP, hK, hD0⟩ := hv
  have hx := B.exec
  have hb := B.bytes
  have hr := B.returns
  have hts := atoms_spec (ws := w_R_wish) B.pre
  have htb : ∀ w ∈ TBG, w.before [.ref (ad 0), .int (nI p1), .int (nI d), .int (nI sf), .int (nI b), .int (nI wt)].toArray s = true := fun w h => hts w (List.mem_cons_of_mem _ h)
  have hown : s.vm.findClass R_R = some m.cls := findClass_of_methodNamed B.named
  have hlocks := B.notSynchronized
  subst hsz
  have hD := hD0.self (sz := s.heap.size)
  unfold rw_Qi
  generalize hAe : va_A (wR ad ca P S G) s.heap.size = A at hD ⊢
  have hA : ∀ q : Nat, s.heap.size ≤ q → A q := fun q h => by rw [← hAe]; exact Or.inr h
  have hS : va_S A s.heap s.heap [] := va_S.rf
  have hl := lv_entry ([.ref (ad 0), .int (nI p1), .int (nI d), .int (nI sf), .int (nI b), .int (nI wt)]) (n := 6) (Nat.le_of_ble_eq_true rfl)
  rw [lg_entry_eq]
  generalize (lg_sl ([.ref (ad 0), .int (nI p1), .int (nI d), .int (nI sf), .int (nI b), .int (nI wt)]) ++ List.replicate (6 - (lg_sl ([.ref (ad 0), .int (nI p1), .int (nI d), .int (nI sf), .int (nI b), .int (nI wt)])).length) Slot.unset).toArray = ls at hl ⊢
  have hl : lv_has ls 6 [(0, .ref (ad 0)), (1, .int (nI p1)), (2, .int (nI d)), (3, .int (nI sf)), (4, .int (nI b)), (5, .int (nI wt))] := hl
  refine nr_start hP hS (fun H locs hP hS => ?_)
  obtain ⟨h00, h01, h02, h03, h04, h05, hp1, hp2, hp3, hp4, hp5, hp6⟩ := id hP0
  obtain ⟨g00, g01, g02, g03, g04, g05, g06, hs1, hs2, hs3, hs4, hs5, hs6, hs7⟩ := id hS0
  obtain ⟨k00, k01, hg1, hg2⟩ := id hG0
  refine lv_aload_n hx hb d_R_wish_0 rfl (lv_at hl 0 rfl) ?_
  refine lv_iload_n hx hb d_R_wish_1 rfl (lv_at hl 1 rfl) ?_
  refine nr_callv (wr := ([] : va_W)) (va_runV (As := [.int (nI p1)]) (rest := []) ⟨hx, hb, hml, hown, hts⟩ (r_R_refuseUnknownPerson l D ad ca P S G hP0 hS0 hG0 p1 (by omega) H.size) ⟨callB_of 1 hts (gTB q_R_refuseUnknownPerson) rfl rfl rfl (htb _ q1) (htb _ q409) hd_R_refuseUnknownPerson ⟨Nat.le_of_ble_eq_true rfl, Nat.le_of_ble_eq_true rfl⟩, (htb _ q411), (htb _ sel_R_refuseUnknownPerson)⟩ ⟨rw_blind, va_recv (hK.sub (tys' := []) [] rfl) hP (ci := 2) (q0 := 15) rfl rfl, rw_pre hN (hP.sub (ws' := (wR ad ca P S G)) [0, 1, 2, 3, 4, 5, 6, 7, 8, 9, 10, 11, 12, 13, 14, 15, 16, 17] rfl) (hK.sub (tys' := (tR ca)) [0, 1, 2, 3, 4, 5, 6, 7, 8, 9, 10, 11, 12, 13, 14] rfl) (hD.sub (ws' := (wR ad ca P S G)) [0, 1, 2, 3, 4, 5, 6, 7, 8, 9, 10, 11, 12, 13, 14, 15, 16, 17] (by decide) rfl)⟩ rfl rfl hl.1 rfl (lv_room (Nat.le_of_ble_eq_true rfl)) d_R_wish_2 ⟨Nat.le_of_ble_eq_true rfl, Nat.le_of_ble_eq_true rfl⟩) hP hD hS hA [0, 1, 2, 3, 4, 5, 6, 7, 8, 9, 10, 11, 12, 13, 14, 15, 16, 17] [] rfl rfl (by decide) (by decide) (fun u_1 H locs hu_1 hP hD hS => ?_)
  replace hP := hP.sub (ws' := wR ad ca P S G) [0, 1, 2, 3, 4, 5, 6, 7, 8, 9, 10, 11, 12, 13, 14, 15, 16, 17] rfl
  replace hD := hD.sub (ws' := wR ad ca P S G) [0, 1, 2, 3, 4, 5, 6, 7, 8, 9, 10, 11, 12, 13, 14, 15, 16, 17] (by decide) rfl
  refine lv_aload_n hx hb d_R_wish_5 rfl (lv_at hl 0 rfl) ?_
  refine lv_iload_n hx hb d_R_wish_6 rfl (lv_at hl 2 rfl) ?_
  refine nr_callv (wr := ([] : va_W)) (va_runV (As := [.int (nI d)]) (rest := []) ⟨hx, hb, hml, hown, hts⟩ (r_R_refuseUnknownDay l D ad ca P S G hP0 hS0 hG0 d (by omega) H.size) ⟨callB_of 1 hts (gTB q_R_refuseUnknownDay) rfl rfl rfl (htb _ q1) (htb _ q364) hd_R_refuseUnknownDay ⟨Nat.le_of_ble_eq_true rfl, Nat.le_of_ble_eq_true rfl⟩, (htb _ q366), (htb _ sel_R_refuseUnknownDay)⟩ ⟨rw_blind, va_recv (hK.sub (tys' := []) [] rfl) hP (ci := 2) (q0 := 15) rfl rfl, rw_pre hN (hP.sub (ws' := (wR ad ca P S G)) [0, 1, 2, 3, 4, 5, 6, 7, 8, 9, 10, 11, 12, 13, 14, 15, 16, 17] rfl) (hK.sub (tys' := (tR ca)) [0, 1, 2, 3, 4, 5, 6, 7, 8, 9, 10, 11, 12, 13, 14] rfl) (hD.sub (ws' := (wR ad ca P S G)) [0, 1, 2, 3, 4, 5, 6, 7, 8, 9, 10, 11, 12, 13, 14, 15, 16, 17] (by decide) rfl)⟩ rfl rfl hl.1 rfl (lv_room (Nat.le_of_ble_eq_true rfl)) d_R_wish_7 ⟨Nat.le_of_ble_eq_true rfl, Nat.le_of_ble_eq_true rfl⟩) hP hD hS hA [0, 1, 2, 3, 4, 5, 6, 7, 8, 9, 10, 11, 12, 13, 14, 15, 16, 17] [] rfl rfl (by decide) (by decide) (fun u_2 H locs hu_2 hP hD hS => ?_)
  replace hP := hP.sub (ws' := wR ad ca P S G) [0, 1, 2, 3, 4, 5, 6, 7, 8, 9, 10, 11, 12, 13, 14, 15, 16, 17] rfl
  replace hD := hD.sub (ws' := wR ad ca P S G) [0, 1, 2, 3, 4, 5, 6, 7, 8, 9, 10, 11, 12, 13, 14, 15, 16, 17] (by decide) rfl
  refine lv_iload_n hx hb d_R_wish_10 rfl (lv_at hl 3 rfl) ?_
  refine nr_iconst hx hb 0 d_R_wish_11 (by decide) ?_
  refine nr_iconst hx hb 3 d_R_wish_12 (by decide) ?_
  refine nr_callv (wr := ([0, 1, 2, 3, 4, 5, 6, 7, 8, 9, 10, 11, 12, 13, 14, 15, 16, 17] : List Nat).filterMap (fun i => (wR ad ca P S G : va_W)[i]?)) (va_runS (As := [.int (nI sf), .int (nI 0), .int (nI 3)]) (rest := []) ⟨hx, hb, hml, hown, hts⟩ (r_R_refuseUnknown l D sf 0 3 (by omega) (by omega) (by omega) H.size) ⟨callB_of 3 hts (gTB q_R_refuseUnknown) rfl rfl rfl (htb _ q1) (htb _ q368) hd_R_refuseUnknown ⟨Nat.le_of_ble_eq_true rfl, Nat.le_of_ble_eq_true rfl⟩, (htb _ q369)⟩ ⟨rw_blind, rw_pre hN (hP.sub (ws' := []) [] rfl) (hK.sub (tys' := []) [] rfl) (hD.sub (ws' := []) [] (by decide) rfl)⟩ rfl rfl hl.1 rfl (lv_room (Nat.le_of_ble_eq_true rfl)) d_R_wish_13 ⟨Nat.le_of_ble_eq_true rfl, Nat.le_of_ble_eq_true rfl⟩) hP hD hS hA [] [0, 1, 2, 3, 4, 5, 6, 7, 8, 9, 10, 11, 12, 13, 14, 15, 16, 17] rfl rfl (by decide) (by decide) (fun u_3 H locs hu_3 hP hD hS => ?_)
  replace hP := hP.sub (ws' := wR ad ca P S G) [0, 1, 2, 3, 4, 5, 6, 7, 8, 9, 10, 11, 12, 13, 14, 15, 16, 17] rfl
  replace hD := hD.sub (ws' := wR ad ca P S G) [0, 1, 2, 3, 4, 5, 6, 7, 8, 9, 10, 11, 12, 13, 14, 15, 16, 17] (by decide) rfl
  refine lv_iload hx hb d_R_wish_16 (lv_at hl 5 rfl) ?_
  refine nr_iconst hx hb 1 d_R_wish_18 (by decide) ?_
  refine nr_bipush hx hb 100 d_R_wish_19 (by decide) ?_
  refine nr_callv (wr := ([0, 1, 2, 3, 4, 5, 6, 7, 8, 9, 10, 11, 12, 13, 14, 15, 16, 17] : List Nat).filterMap (fun i => (wR ad ca P S G : va_W)[i]?)) (va_runS (As := [.int (nI wt), .int (nI 1), .int (nI 100)]) (rest := []) ⟨hx, hb, hml, hown, hts⟩ (r_R_refuseOutside l D wt 1 100 (by omega) (by omega) (by omega) H.size) ⟨callB_of 3 hts (gTB q_R_refuseOutside) rfl rfl rfl (htb _ q1) (htb _ q244) hd_R_refuseOutside ⟨Nat.le_of_ble_eq_true rfl, Nat.le_of_ble_eq_true rfl⟩, (htb _ q245)⟩ ⟨rw_blind, rw_pre hN (hP.sub (ws' := []) [] rfl) (hK.sub (tys' := []) [] rfl) (hD.sub (ws' := []) [] (by decide) rfl)⟩ rfl rfl hl.1 rfl (lv_room (Nat.le_of_ble_eq_true rfl)) d_R_wish_21 ⟨Nat.le_of_ble_eq_true rfl, Nat.le_of_ble_eq_true rfl⟩) hP hD hS hA [] [0, 1, 2, 3, 4, 5, 6, 7, 8, 9, 10, 11, 12, 13, 14, 15, 16, 17] rfl rfl (by decide) (by decide) (fun u_4 H locs hu_4 hP hD hS => ?_)
  replace hP := hP.sub (ws' := wR ad ca P S G) [0, 1, 2, 3, 4, 5, 6, 7, 8, 9, 10, 11, 12, 13, 14, 15, 16, 17] rfl
  replace hD := hD.sub (ws' := wR ad ca P S G) [0, 1, 2, 3, 4, 5, 6, 7, 8, 9, 10, 11, 12, 13, 14, 15, 16, 17] (by decide) rfl
  refine lv_aload_n hx hb d_R_wish_24 rfl (lv_at hl 0 rfl) ?_
  refine lv_iload_n hx hb d_R_wish_25 rfl (lv_at hl 2 rfl) ?_
  refine nr_callv (wr := ([] : va_W)) (va_runV (As := [.int (nI d)]) (rest := []) ⟨hx, hb, hml, hown, hts⟩ (r_R_refuseFrozen l D ad ca P S G hP0 hS0 hG0 d (by omega) (by omega) H.size) ⟨callB_of 1 hts (gTB q_R_refuseFrozen) rfl rfl rfl (htb _ q1) (htb _ q422) hd_R_refuseFrozen ⟨Nat.le_of_ble_eq_true rfl, Nat.le_of_ble_eq_true rfl⟩, (htb _ q424), (htb _ sel_R_refuseFrozen)⟩ ⟨rw_blind, va_recv (hK.sub (tys' := []) [] rfl) hP (ci := 2) (q0 := 15) rfl rfl, rw_pre hN (hP.sub (ws' := (wR ad ca P S G)) [0, 1, 2, 3, 4, 5, 6, 7, 8, 9, 10, 11, 12, 13, 14, 15, 16, 17] rfl) (hK.sub (tys' := (tR ca)) [0, 1, 2, 3, 4, 5, 6, 7, 8, 9, 10, 11, 12, 13, 14] rfl) (hD.sub (ws' := (wR ad ca P S G)) [0, 1, 2, 3, 4, 5, 6, 7, 8, 9, 10, 11, 12, 13, 14, 15, 16, 17] (by decide) rfl)⟩ rfl rfl hl.1 rfl (lv_room (Nat.le_of_ble_eq_true rfl)) d_R_wish_26 ⟨Nat.le_of_ble_eq_true rfl, Nat.le_of_ble_eq_true rfl⟩) hP hD hS hA [0, 1, 2, 3, 4, 5, 6, 7, 8, 9, 10, 11, 12, 13, 14, 15, 16, 17] [] rfl rfl (by decide) (by decide) (fun u_5 H locs hu_5 hP hD hS => ?_)
  replace hP := hP.sub (ws' := wR ad ca P S G) [0, 1, 2, 3, 4, 5, 6, 7, 8, 9, 10, 11, 12, 13, 14, 15, 16, 17] rfl
  replace hD := hD.sub (ws' := wR ad ca P S G) [0, 1, 2, 3, 4, 5, 6, 7, 8, 9, 10, 11, 12, 13, 14, 15, 16, 17] (by decide) rfl
  refine lv_aload_n hx hb d_R_wish_29 rfl (lv_at hl 0 rfl) ?_
  refine va_get (D := D) (ci := 2) (v := .ref (ad 1)) (C := R_R) (T := F_R) (N := 6) hx hb htb u_R hown hK hP 15 rfl rfl 0 (by decide) (htb _ q134) (fun _ h9 => h9) rfl d_R_wish_30 ?_
  refine va_getN (D := D) (ci := 0) (v := .int (nI (P 0 5))) (C := R_P) (T := F_P) (N := 12) hx hb htb u_P hown hK hP 0 rfl rfl 5 (by decide) (hN.at q40 rfl rfl) (fun _ h9 => h9) rfl d_R_wish_33 ?_
  refine nr_bipush hx hb 20 d_R_wish_36 (by decide) ?_
  refine nr_callv (wr := ([0, 1, 2, 3, 4, 5, 6, 7, 8, 9, 10, 11, 12, 13, 14, 15, 16, 17] : List Nat).filterMap (fun i => (wR ad ca P S G : va_W)[i]?)) (va_runS (As := [.int (nI (P 0 5)), .int (nI 20)]) (rest := []) ⟨hx, hb, hml, hown, hts⟩ (r_R_refuseFull l D (P 0 5) 20 (by omega) (by omega) H.size) ⟨callB_of 2 hts (gTB q_R_refuseFull) rfl rfl rfl (htb _ q1) (htb _ q333) hd_R_refuseFull ⟨Nat.le_of_ble_eq_true rfl, Nat.le_of_ble_eq_true rfl⟩, (htb _ q334)⟩ ⟨rw_blind, rw_pre hN (hP.sub (ws' := []) [] rfl) (hK.sub (tys' := []) [] rfl) (hD.sub (ws' := []) [] (by decide) rfl)⟩ rfl rfl hl.1 rfl (lv_room (Nat.le_of_ble_eq_true rfl)) d_R_wish_38 ⟨Nat.le_of_ble_eq_true rfl, Nat.le_of_ble_eq_true rfl⟩) hP hD hS hA [] [0, 1, 2, 3, 4, 5, 6, 7, 8, 9, 10, 11, 12, 13, 14, 15, 16, 17] rfl rfl (by decide) (by decide) (fun u_6 H locs hu_6 hP hD hS => ?_)
  replace hP := hP.sub (ws' := wR ad ca P S G) [0, 1, 2, 3, 4, 5, 6, 7, 8, 9, 10, 11, 12, 13, 14, 15, 16, 17] rfl
  replace hD := hD.sub (ws' := wR ad ca P S G) [0, 1, 2, 3, 4, 5, 6, 7, 8, 9, 10, 11, 12, 13, 14, 15, 16, 17] (by decide) rfl
  refine lv_aload_n hx hb d_R_wish_41 rfl (lv_at hl 0 rfl) ?_
  refine va_get (D := D) (ci := 2) (v := .ref (ad 1)) (C := R_R) (T := F_R) (N := 6) hx hb htb u_R hown hK hP 15 rfl rfl 0 (by decide) (htb _ q134) (fun _ h9 => h9) rfl d_R_wish_42 ?_
  refine lv_iload_n hx hb d_R_wish_45 rfl (lv_at hl 1 rfl) ?_
  refine lv_iload_n hx hb d_R_wish_46 rfl (lv_at hl 2 rfl) ?_
  refine nr_iconst hx hb 0 d_R_wish_47 (by decide) ?_
  refine nr_calli (va_runS (As := [.int (nI p1), .int (nI d), .int (nI 0)]) (rest := [.ref (ad 1)]) ⟨hx, hb, hml, hown, hts⟩ (c_R_choice l D p1 d 0) ⟨callB_of 3 hts (gTB q_R_choice) rfl rfl rfl (htb _ q1) (htb _ q413) hd_R_choice ⟨Nat.le_of_ble_eq_true rfl, Nat.le_of_ble_eq_true rfl⟩, (htb _ q206)⟩ ⟨ro_blind, ro_pre hN (hP.sub (ws' := []) [] rfl) (hK.sub (tys' := []) [] rfl)⟩ rfl rfl hl.1 rfl (lv_room (Nat.le_of_ble_eq_true rfl)) d_R_wish_48 ⟨Nat.le_of_ble_eq_true rfl, Nat.le_of_ble_eq_true rfl⟩) (fun r_7 hr_7 => ?_)
  subst hr_7
  refine lv_iload_n hx hb d_R_wish_51 rfl (lv_at hl 3 rfl) ?_
  refine lv_iload hx hb d_R_wish_52 (lv_at hl 4 rfl) ?_
  refine lv_iload hx hb d_R_wish_54 (lv_at hl 5 rfl) ?_
  refine nr_callwi (wr := ([7, 8, 9, 10, 11, 12, 13, 14, 15, 16, 17] : List Nat).filterMap (fun i => (wR ad ca P S G : va_W)[i]?)) (va_runVN (As := [.int (nI ((d * 6 + p1) * 4 + 0)), .int (nI sf), .int (nI b), .int (nI wt)]) (rest := []) ⟨hx, hb, hml, hown, hts⟩ (c_P_addWish l D ad ca P ((d * 6 + p1) * 4 + 0) sf b wt (by omega) (by omega) (by omega) H.size) ⟨va_cnB 4 hts (gTB q_P_addWish) rfl rfl rfl (hN.nw q442 rfl) (htb _ q2) hd_P_addWish ⟨Nat.le_of_ble_eq_true rfl, Nat.le_of_ble_eq_true rfl⟩, (htb _ q444), (htb _ sel_P_addWish)⟩ ⟨rw_blind, va_recv (hK.sub (tys' := []) [] rfl) hP (ci := 0) (q0 := 0) rfl rfl, rw_pre hN (hP.sub (ws' := (wP ad ca P)) [0, 1, 2, 3, 4, 5, 6] rfl) (hK.sub (tys' := (tP ca)) [0, 1, 2, 3, 4, 5] rfl) (hD.sub (ws' := (wP ad ca P)) [0, 1, 2, 3, 4, 5, 6] (by decide) rfl)⟩ rfl rfl hl.1 rfl (lv_room (Nat.le_of_ble_eq_true rfl)) d_R_wish_56 ⟨Nat.le_of_ble_eq_true rfl, Nat.le_of_ble_eq_true rfl⟩) hP hD hS hA [0, 1, 2, 3, 4, 5, 6] [7, 8, 9, 10, 11, 12, 13, 14, 15, 16, 17] rfl rfl (by decide) (by decide) (fun r_8 u_8 H locs hr_8 hP hD hS => ?_)
  subst hr_8
  replace hP := hP.sub (ws' := wR ad ca (up2 (aw ((d * 6 + p1) * 4 + 0) sf b wt 4 0 P) 0 5 (P 0 5 + 1)) S G) [11, 12, 13, 14, 15, 16, 17, 0, 1, 2, 3, 4, 5, 6, 7, 8, 9, 10] rfl
  replace hD := hD.sub (ws' := wR ad ca (up2 (aw ((d * 6 + p1) * 4 + 0) sf b wt 4 0 P) 0 5 (P 0 5 + 1)) S G) [11, 12, 13, 14, 15, 16, 17, 0, 1, 2, 3, 4, 5, 6, 7, 8, 9, 10] (by decide) rfl
  exact W.iret (v := (nI (P 0 5))) hx hb hr (fun t ht hW => ⟨⟨_, (), rfl, rfl, by rw [ht]; exact hP, hD⟩, hS.F ht⟩) hS.2.2 d_R_wish_59
set_option maxHeartbeats 4000000 in
set_option maxRecDepth 100000 in
theorem r_R_freeze (l : Launch) (D : va_G) (ad : Nat → Nat) (ca : Nat → ClassId) (P S G : Nat → Nat → Nat) (hP0 : okP P) (hS0 : okS S) (hG0 : okG G) (x : Nat) (hxa : G 0 0 ≤ x) (hxb : x ≤ P 0 1) (sz : Nat) : Met l y_R_freeze w_R_freeze { frames := 1, cells := 0, slots := 0, locals := 22 } (rw_P [.ref (ad 0), .int (nI x)] D (wR ad ca P S G) (tR ca) sz) (rw_Qv (fun u : Unit => True) D (wR ad ca P S G) (fun u => wR ad ca P S (up2 G 0 0 x)) sz) 0 0 (va_A (wR ad ca P S G) sz) := by
  refine Met.ofW (cc := b_R_freeze) (maxL := 2) (ret := none) (by decide) rfl ?_
  intro p e s m args below meth c s₁ B hml hv
  obtain ⟨rfl, hsz, hN, hP, hK, hD0⟩ := hv
  have hx := B.exec
  have hb := B.bytes
  have hr := B.returns
  have hts := atoms_spec (ws := w_R_freeze) B.pre
  have htb : ∀ w ∈ TBG, w.before [.ref (ad 0), .int (nI x)].toArray s = true := fun w h => hts w (List.mem_cons_of_mem _ h)
  have hown : s.vm.findClass R_R = some m.cls := findClass_of_methodNamed B.named
  have hlocks := B.notSynchronized
  subst hsz
  have hD := hD0.self (sz := s.heap.size)
  unfold rw_Qv
  generalize hAe : va_A (wR ad ca P S G) s.heap.size = A at hD ⊢
  have hA : ∀ q : Nat, s.heap.size ≤ q → A q := fun q h => by rw [← hAe]; exact Or.inr h
  have hS : va_S A s.heap s.heap [] := va_S.rf
  have hl := lv_entry ([.ref (ad 0), .int (nI x)]) (n := 2) (Nat.le_of_ble_eq_true rfl)
  rw [lg_entry_eq]
  generalize (lg_sl ([.ref (ad 0), .int (nI x)]) ++ List.replicate (2 - (lg_sl ([.ref (ad 0), .int (nI x)])).length) Slot.unset).toArray = ls at hl ⊢
  have hl : lv_has ls 2 [(0, .ref (ad 0)), (1, .int (nI x))] := hl
  refine nr_start hP hS (fun H locs hP hS => ?_)
  obtain ⟨h00, h01, h02, h03, h04, h05, hp1, hp2, hp3, hp4, hp5, hp6⟩ := id hP0
  obtain ⟨g00, g01, g02, g03, g04, g05, g06, hs1, hs2, hs3, hs4, hs5, hs6, hs7⟩ := id hS0
  obtain ⟨k00, k01, hg1, hg2⟩ := id hG0
  refine lv_iload_n hx hb d_R_freeze_0 rfl (lv_at hl 1 rfl) ?_
  refine lv_aload_n hx hb d_R_freeze_1 rfl (lv_at hl 0 rfl) ?_
  refine va_get (D := D) (ci := 2) (v := .int (nI (G 0 0))) (C := R_R) (T := F_R) (N := 6) hx hb htb u_R hown hK hP 15 rfl rfl 4 (by decide) (htb _ q138) (fun _ h9 => h9) rfl d_R_freeze_2 ?_
  refine lv_aload_n hx hb d_R_freeze_5 rfl (lv_at hl 0 rfl) ?_
  refine va_get (D := D) (ci := 2) (v := .ref (ad 1)) (C := R_R) (T := F_R) (N := 6) hx hb htb u_R hown hK hP 15 rfl rfl 0 (by decide) (htb _ q134) (fun _ h9 => h9) rfl d_R_freeze_6 ?_
  refine va_getN (D := D) (ci := 0) (v := .int (nI (P 0 1))) (C := R_P) (T := F_P) (N := 12) hx hb htb u_P hown hK hP 0 rfl rfl 1 (by decide) (hN.at q33 rfl rfl) (fun _ h9 => h9) rfl d_R_freeze_9 ?_
  refine nr_callv (wr := ([0, 1, 2, 3, 4, 5, 6, 7, 8, 9, 10, 11, 12, 13, 14, 15, 16, 17] : List Nat).filterMap (fun i => (wR ad ca P S G : va_W)[i]?)) (va_runS (As := [.int (nI x), .int (nI (G 0 0)), .int (nI (P 0 1))]) (rest := []) ⟨hx, hb, hml, hown, hts⟩ (r_R_refuseOutside l D x (G 0 0) (P 0 1) (by omega) (by omega) (by omega) H.size) ⟨callB_of 3 hts (gTB q_R_refuseOutside) rfl rfl rfl (htb _ q1) (htb _ q244) hd_R_refuseOutside ⟨Nat.le_of_ble_eq_true rfl, Nat.le_of_ble_eq_true rfl⟩, (htb _ q245)⟩ ⟨rw_blind, rw_pre hN (hP.sub (ws' := []) [] rfl) (hK.sub (tys' := []) [] rfl) (hD.sub (ws' := []) [] (by decide) rfl)⟩ rfl rfl hl.1 rfl (lv_room (Nat.le_of_ble_eq_true rfl)) d_R_freeze_12 ⟨Nat.le_of_ble_eq_true rfl, Nat.le_of_ble_eq_true rfl⟩) hP hD hS hA [] [0, 1, 2, 3, 4, 5, 6, 7, 8, 9, 10, 11, 12, 13, 14, 15, 16, 17] rfl rfl (by decide) (by decide) (fun u_1 H locs hu_1 hP hD hS => ?_)
  replace hP := hP.sub (ws' := wR ad ca P S G) [0, 1, 2, 3, 4, 5, 6, 7, 8, 9, 10, 11, 12, 13, 14, 15, 16, 17] rfl
  replace hD := hD.sub (ws' := wR ad ca P S G) [0, 1, 2, 3, 4, 5, 6, 7, 8, 9, 10, 11, 12, 13, 14, 15, 16, 17] (by decide) rfl
  refine lv_aload_n hx hb d_R_freeze_15 rfl (lv_at hl 0 rfl) ?_
  refine lv_iload_n hx hb d_R_freeze_16 rfl (lv_at hl 1 rfl) ?_
  refine va_put (D := D) (ci := 2) (v := .int (nI x)) (ty := .int) (C := R_R) (T := F_R) (N := 6) hx hb htb u_R t_R t_R_ok n_R hown hK hP hD hS 15 rfl rfl 4 (by decide) (htb _ q138) (fun _ h9 => h9) rfl (by decide +kernel) rfl rfl (Nat.le_of_ble_eq_true rfl) d_R_freeze_17 (fun H locs hP hD hS => ?_)
  replace hP : va_P D cls (wR ad ca P S (up2 G 0 0 x)) H := hP
  replace hD : va_D A (wR ad ca P S (up2 G 0 0 x)) := hD
  exact W.vret hx hb hr (fun t ht hW => ⟨⟨(), rfl, trivial, by rw [ht]; exact hP, hD⟩, hS.F ht⟩) hS.2.2 d_R_freeze_20
set_option maxHeartbeats 4000000 in
set_option maxRecDepth 100000 in
theorem r_R_set (l : Launch) (D : va_G) (ad : Nat → Nat) (ca : Nat → ClassId) (P S G : Nat → Nat → Nat) (hP0 : okP P) (hS0 : okS S) (hG0 : okG G) (p1 d sf : Nat) (hp : p1 < P 0 0) (hd : d < P 0 1) (hs3_ : sf ≤ 3) (hfr : G 0 0 ≤ d) (sz : Nat) : Met l y_R_set w_R_set { frames := 2, cells := 0, slots := 0, locals := 43 } (rw_P [.ref (ad 0), .int (nI p1), .int (nI d), .int (nI sf)] D (wR ad ca P S G) (tR ca) sz) (rw_Qv (fun u : Unit => True) D (wR ad ca P S G) (fun u => wR ad ca P S (up2 G 1 (d * 6 + p1) sf)) sz) 0 0 (va_A (wR ad ca P S G) sz) := by
  refine Met.ofW (cc := b_R_set) (maxL := 4) (ret := none) (by decide) rfl ?_
  intro p e s m args below meth c s₁ B hml hv
  obtain ⟨rfl, hsz, hN, hP, hK, hD0⟩ := hv
  have hx := B.exec
  have hb := B.bytes
  have hr := B.returns
  have hts := atoms_spec (ws := w_R_set) B.pre
  have htb : ∀ w ∈ TBG, w.before [.ref (ad 0), .int (nI p1), .int (nI d), .int (nI sf)].toArray s = true := fun w h => hts w (List.mem_cons_of_mem _ h)
  have hown : s.vm.findClass R_R = some m.cls := findClass_of_methodNamed B.named
  have hlocks := B.notSynchronized
  subst hsz
  have hD := hD0.self (sz := s.heap.size)
  unfold rw_Qv
  generalize hAe : va_A (wR ad ca P S G) s.heap.size = A at hD ⊢
  have hA : ∀ q : Nat, s.heap.size ≤ q → A q := fun q h => by rw [← hAe]; exact Or.inr h
  have hS : va_S A s.heap s.heap [] := va_S.rf
  have hl := lv_entry ([.ref (ad 0), .int (nI p1), .int (nI d), .int (nI sf)]) (n := 4) (Nat.le_of_ble_eq_true rfl)
  rw [lg_entry_eq]
  generalize (lg_sl ([.ref (ad 0), .int (nI p1), .int (nI d), .int (nI sf)]) ++ List.replicate (4 - (lg_sl ([.ref (ad 0), .int (nI p1), .int (nI d), .int (nI sf)])).length) Slot.unset).toArray = ls at hl ⊢
  have hl : lv_has ls 4 [(0, .ref (ad 0)), (1, .int (nI p1)), (2, .int (nI d)), (3, .int (nI sf))] := hl
  refine nr_start hP hS (fun H locs hP hS => ?_)
  obtain ⟨h00, h01, h02, h03, h04, h05, hp1, hp2, hp3, hp4, hp5, hp6⟩ := id hP0
  obtain ⟨g00, g01, g02, g03, g04, g05, g06, hs1, hs2, hs3, hs4, hs5, hs6, hs7⟩ := id hS0
  obtain ⟨k00, k01, hg1, hg2⟩ := id hG0
  refine lv_aload_n hx hb d_R_set_0 rfl (lv_at hl 0 rfl) ?_
  refine lv_iload_n hx hb d_R_set_1 rfl (lv_at hl 1 rfl) ?_
  refine nr_callv (wr := ([] : va_W)) (va_runV (As := [.int (nI p1)]) (rest := []) ⟨hx, hb, hml, hown, hts⟩ (r_R_refuseUnknownPerson l D ad ca P S G hP0 hS0 hG0 p1 (by omega) H.size) ⟨callB_of 1 hts (gTB q_R_refuseUnknownPerson) rfl rfl rfl (htb _ q1) (htb _ q409) hd_R_refuseUnknownPerson ⟨Nat.le_of_ble_eq_true rfl, Nat.le_of_ble_eq_true rfl⟩, (htb _ q411), (htb _ sel_R_refuseUnknownPerson)⟩ ⟨rw_blind, va_recv (hK.sub (tys' := []) [] rfl) hP (ci := 2) (q0 := 15) rfl rfl, rw_pre hN (hP.sub (ws' := (wR ad ca P S G)) [0, 1, 2, 3, 4, 5, 6, 7, 8, 9, 10, 11, 12, 13, 14, 15, 16, 17] rfl) (hK.sub (tys' := (tR ca)) [0, 1, 2, 3, 4, 5, 6, 7, 8, 9, 10, 11, 12, 13, 14] rfl) (hD.sub (ws' := (wR ad ca P S G)) [0, 1, 2, 3, 4, 5, 6, 7, 8, 9, 10, 11, 12, 13, 14, 15, 16, 17] (by decide) rfl)⟩ rfl rfl hl.1 rfl (lv_room (Nat.le_of_ble_eq_true rfl)) d_R_set_2 ⟨Nat.le_of_ble_eq_true rfl, Nat.le_of_ble_eq_true rfl⟩) hP hD hS hA [0, 1, 2, 3, 4, 5, 6, 7, 8, 9, 10, 11, 12, 13, 14, 15, 16, 17] [] rfl rfl (by decide) (by decide) (fun u_1 H locs hu_1 hP hD hS => ?_)
  replace hP := hP.sub (ws' := wR ad ca P S G) [0, 1, 2, 3, 4, 5, 6, 7, 8, 9, 10, 11, 12, 13, 14, 15, 16, 17] rfl
  replace hD := hD.sub (ws' := wR ad ca P S G) [0, 1, 2, 3, 4, 5, 6, 7, 8, 9, 10, 11, 12, 13, 14, 15, 16, 17] (by decide) rfl
  refine lv_aload_n hx hb d_R_set_5 rfl (lv_at hl 0 rfl) ?_
  refine lv_iload_n hx hb d_R_set_6 rfl (lv_at hl 2 rfl) ?_
  refine nr_callv (wr := ([] : va_W)) (va_runV (As := [.int (nI d)]) (rest := []) ⟨hx, hb, hml, hown, hts⟩ (r_R_refuseUnknownDay l D ad ca P S G hP0 hS0 hG0 d (by omega) H.size) ⟨callB_of 1 hts (gTB q_R_refuseUnknownDay) rfl rfl rfl (htb _ q1) (htb _ q364) hd_R_refuseUnknownDay ⟨Nat.le_of_ble_eq_true rfl, Nat.le_of_ble_eq_true rfl⟩, (htb _ q366), (htb _ sel_R_refuseUnknownDay)⟩ ⟨rw_blind, va_recv (hK.sub (tys' := []) [] rfl) hP (ci := 2) (q0 := 15) rfl rfl, rw_pre hN (hP.sub (ws' := (wR ad ca P S G)) [0, 1, 2, 3, 4, 5, 6, 7, 8, 9, 10, 11, 12, 13, 14, 15, 16, 17] rfl) (hK.sub (tys' := (tR ca)) [0, 1, 2, 3, 4, 5, 6, 7, 8, 9, 10, 11, 12, 13, 14] rfl) (hD.sub (ws' := (wR ad ca P S G)) [0, 1, 2, 3, 4, 5, 6, 7, 8, 9, 10, 11, 12, 13, 14, 15, 16, 17] (by decide) rfl)⟩ rfl rfl hl.1 rfl (lv_room (Nat.le_of_ble_eq_true rfl)) d_R_set_7 ⟨Nat.le_of_ble_eq_true rfl, Nat.le_of_ble_eq_true rfl⟩) hP hD hS hA [0, 1, 2, 3, 4, 5, 6, 7, 8, 9, 10, 11, 12, 13, 14, 15, 16, 17] [] rfl rfl (by decide) (by decide) (fun u_2 H locs hu_2 hP hD hS => ?_)
  replace hP := hP.sub (ws' := wR ad ca P S G) [0, 1, 2, 3, 4, 5, 6, 7, 8, 9, 10, 11, 12, 13, 14, 15, 16, 17] rfl
  replace hD := hD.sub (ws' := wR ad ca P S G) [0, 1, 2, 3, 4, 5, 6, 7, 8, 9, 10, 11, 12, 13, 14, 15, 16, 17] (by decide) rfl
  refine lv_iload_n hx hb d_R_set_10 rfl (lv_at hl 3 rfl) ?_
  refine nr_iconst hx hb 0 d_R_set_11 (by decide) ?_
  refine nr_iconst hx hb 3 d_R_set_12 (by decide) ?_
  refine nr_callv (wr := ([0, 1, 2, 3, 4, 5, 6, 7, 8, 9, 10, 11, 12, 13, 14, 15, 16, 17] : List Nat).filterMap (fun i => (wR ad ca P S G : va_W)[i]?)) (va_runS (As := [.int (nI sf), .int (nI 0), .int (nI 3)]) (rest := []) ⟨hx, hb, hml, hown, hts⟩ (r_R_refuseUnknown l D sf 0 3 (by omega) (by omega) (by omega) H.size) ⟨callB_of 3 hts (gTB q_R_refuseUnknown) rfl rfl rfl (htb _ q1) (htb _ q368) hd_R_refuseUnknown ⟨Nat.le_of_ble_eq_true rfl, Nat.le_of_ble_eq_true rfl⟩, (htb _ q369)⟩ ⟨rw_blind, rw_pre hN (hP.sub (ws' := []) [] rfl) (hK.sub (tys' := []) [] rfl) (hD.sub (ws' := []) [] (by decide) rfl)⟩ rfl rfl hl.1 rfl (lv_room (Nat.le_of_ble_eq_true rfl)) d_R_set_13 ⟨Nat.le_of_ble_eq_true rfl, Nat.le_of_ble_eq_true rfl⟩) hP hD hS hA [] [0, 1, 2, 3, 4, 5, 6, 7, 8, 9, 10, 11, 12, 13, 14, 15, 16, 17] rfl rfl (by decide) (by decide) (fun u_3 H locs hu_3 hP hD hS => ?_)
  replace hP := hP.sub (ws' := wR ad ca P S G) [0, 1, 2, 3, 4, 5, 6, 7, 8, 9, 10, 11, 12, 13, 14, 15, 16, 17] rfl
  replace hD := hD.sub (ws' := wR ad ca P S G) [0, 1, 2, 3, 4, 5, 6, 7, 8, 9, 10, 11, 12, 13, 14, 15, 16, 17] (by decide) rfl
  refine lv_aload_n hx hb d_R_set_16 rfl (lv_at hl 0 rfl) ?_
  refine lv_iload_n hx hb d_R_set_17 rfl (lv_at hl 2 rfl) ?_
  refine nr_callv (wr := ([] : va_W)) (va_runV (As := [.int (nI d)]) (rest := []) ⟨hx, hb, hml, hown, hts⟩ (r_R_refuseFrozen l D ad ca P S G hP0 hS0 hG0 d (by omega) (by omega) H.size) ⟨callB_of 1 hts (gTB q_R_refuseFrozen) rfl rfl rfl (htb _ q1) (htb _ q422) hd_R_refuseFrozen ⟨Nat.le_of_ble_eq_true rfl, Nat.le_of_ble_eq_true rfl⟩, (htb _ q424), (htb _ sel_R_refuseFrozen)⟩ ⟨rw_blind, va_recv (hK.sub (tys' := []) [] rfl) hP (ci := 2) (q0 := 15) rfl rfl, rw_pre hN (hP.sub (ws' := (wR ad ca P S G)) [0, 1, 2, 3, 4, 5, 6, 7, 8, 9, 10, 11, 12, 13, 14, 15, 16, 17] rfl) (hK.sub (tys' := (tR ca)) [0, 1, 2, 3, 4, 5, 6, 7, 8, 9, 10, 11, 12, 13, 14] rfl) (hD.sub (ws' := (wR ad ca P S G)) [0, 1, 2, 3, 4, 5, 6, 7, 8, 9, 10, 11, 12, 13, 14, 15, 16, 17] (by decide) rfl)⟩ rfl rfl hl.1 rfl (lv_room (Nat.le_of_ble_eq_true rfl)) d_R_set_18 ⟨Nat.le_of_ble_eq_true rfl, Nat.le_of_ble_eq_true rfl⟩) hP hD hS hA [0, 1, 2, 3, 4, 5, 6, 7, 8, 9, 10, 11, 12, 13, 14, 15, 16, 17] [] rfl rfl (by decide) (by decide) (fun u_4 H locs hu_4 hP hD hS => ?_)
  replace hP := hP.sub (ws' := wR ad ca P S G) [0, 1, 2, 3, 4, 5, 6, 7, 8, 9, 10, 11, 12, 13, 14, 15, 16, 17] rfl
  replace hD := hD.sub (ws' := wR ad ca P S G) [0, 1, 2, 3, 4, 5, 6, 7, 8, 9, 10, 11, 12, 13, 14, 15, 16, 17] (by decide) rfl
  refine lv_aload_n hx hb d_R_set_21 rfl (lv_at hl 0 rfl) ?_
  refine va_get (D := D) (ci := 2) (v := .ref (ad 16)) (C := R_R) (T := F_R) (N := 6) hx hb htb u_R hown hK hP 15 rfl rfl 2 (by decide) (htb _ q136) (fun _ h9 => h9) rfl d_R_set_22 ?_
  refine lv_iload_n hx hb d_R_set_25 rfl (lv_at hl 1 rfl) ?_
  refine lv_iload_n hx hb d_R_set_26 rfl (lv_at hl 2 rfl) ?_
  refine nr_calli (va_runS (As := [.int (nI p1), .int (nI d)]) (rest := [.ref (ad 16)]) ⟨hx, hb, hml, hown, hts⟩ (c_R_cell l D p1 d) ⟨callB_of 2 hts (gTB q_R_cell) rfl rfl rfl (htb _ q1) (htb _ q208) hd_R_cell ⟨Nat.le_of_ble_eq_true rfl, Nat.le_of_ble_eq_true rfl⟩, (htb _ q174)⟩ ⟨ro_blind, ro_pre hN (hP.sub (ws' := []) [] rfl) (hK.sub (tys' := []) [] rfl)⟩ rfl rfl hl.1 rfl (lv_room (Nat.le_of_ble_eq_true rfl)) d_R_set_27 ⟨Nat.le_of_ble_eq_true rfl, Nat.le_of_ble_eq_true rfl⟩) (fun r_5 hr_5 => ?_)
  subst hr_5
  refine lv_iload_n hx hb d_R_set_30 rfl (lv_at hl 3 rfl) ?_
  refine nr_iast hx hb hK hP hD hS 16 13 rfl rfl (by omega) (by decide) d_R_set_31 (fun H locs hP hD hS => ?_)
  replace hP : va_P D cls (wR ad ca P S (up2 G 1 (d * 6 + p1) sf)) H := hP
  replace hD : va_D A (wR ad ca P S (up2 G 1 (d * 6 + p1) sf)) := hD
  exact W.vret hx hb hr (fun t ht hW => ⟨⟨(), rfl, trivial, by rw [ht]; exact hP, hD⟩, hS.F ht⟩) hS.2.2 d_R_set_32
set_option maxHeartbeats 4000000 in
set_option maxRecDepth 100000 in
theorem r_R_shift (l : Launch) (D : va_G) (ad : Nat → Nat) (ca : Nat → ClassId) (P S G : Nat → Nat → Nat) (hP0 : okP P) (hS0 : okS S) (hG0 : okG G) (p1 d : Nat) (hp : p1 < P 0 0) (hd : d < P 0 1) (sz : Nat) : Met l y_R_shift w_R_shift { frames := 2, cells := 0, slots := 0, locals := 43 } (rw_P [.ref (ad 0), .int (nI p1), .int (nI d)] D (wR ad ca P S G) (tR ca) sz) (rw_Qi (fun (r : Int32) (u : Unit) => r = nI (G 1 (d * 6 + p1))) D (wR ad ca P S G) (fun u => wR ad ca P S G) sz) 0 0 (va_A (wR ad ca P S G) sz) := by
  refine Met.ofW (cc := b_R_shift) (maxL := 3) (ret := (some .int)) (by decide) rfl ?_
  intro p e s m args below meth c s₁ B hml hv
  obtain ⟨rfl, hsz, hN, hP, hK, hD0⟩ := hv
  have hx := B.exec
  have hb := B.bytes
  have hr := B.returns
  have hts := atoms_spec (ws := w_R_shift) B.pre
  have htb : ∀ w ∈ TBG, w.before [.ref (ad 0), .int (nI p1), .int (nI d)].toArray s = true := fun w h => hts w (List.mem_cons_of_mem _ h)
  have hown : s.vm.findClass R_R = some m.cls := findClass_of_methodNamed B.named
  have hlocks := B.notSynchronized
  subst hsz
  have hD := hD0.self (sz := s.heap.size)
  unfold rw_Qi
  generalize hAe : va_A (wR ad ca P S G) s.heap.size = A at hD ⊢
  have hA : ∀ q : Nat, s.heap.size ≤ q → A q := fun q h => by rw [← hAe]; exact Or.inr h
  have hS : va_S A s.heap s.heap [] := va_S.rf
  have hl := lv_entry ([.ref (ad 0), .int (nI p1), .int (nI d)]) (n := 3) (Nat.le_of_ble_eq_true rfl)
  rw [lg_entry_eq]
  generalize (lg_sl ([.ref (ad 0), .int (nI p1), .int (nI d)]) ++ List.replicate (3 - (lg_sl ([.ref (ad 0), .int (nI p1), .int (nI d)])).length) Slot.unset).toArray = ls at hl ⊢
  have hl : lv_has ls 3 [(0, .ref (ad 0)), (1, .int (nI p1)), (2, .int (nI d))] := hl
  refine nr_start hP hS (fun H locs hP hS => ?_)
  obtain ⟨h00, h01, h02, h03, h04, h05, hp1, hp2, hp3, hp4, hp5, hp6⟩ := id hP0
  obtain ⟨g00, g01, g02, g03, g04, g05, g06, hs1, hs2, hs3, hs4, hs5, hs6, hs7⟩ := id hS0
  obtain ⟨k00, k01, hg1, hg2⟩ := id hG0
  refine lv_aload_n hx hb d_R_shift_0 rfl (lv_at hl 0 rfl) ?_
  refine lv_iload_n hx hb d_R_shift_1 rfl (lv_at hl 1 rfl) ?_
  refine nr_callv (wr := ([] : va_W)) (va_runV (As := [.int (nI p1)]) (rest := []) ⟨hx, hb, hml, hown, hts⟩ (r_R_refuseUnknownPerson l D ad ca P S G hP0 hS0 hG0 p1 (by omega) H.size) ⟨callB_of 1 hts (gTB q_R_refuseUnknownPerson) rfl rfl rfl (htb _ q1) (htb _ q409) hd_R_refuseUnknownPerson ⟨Nat.le_of_ble_eq_true rfl, Nat.le_of_ble_eq_true rfl⟩, (htb _ q411), (htb _ sel_R_refuseUnknownPerson)⟩ ⟨rw_blind, va_recv (hK.sub (tys' := []) [] rfl) hP (ci := 2) (q0 := 15) rfl rfl, rw_pre hN (hP.sub (ws' := (wR ad ca P S G)) [0, 1, 2, 3, 4, 5, 6, 7, 8, 9, 10, 11, 12, 13, 14, 15, 16, 17] rfl) (hK.sub (tys' := (tR ca)) [0, 1, 2, 3, 4, 5, 6, 7, 8, 9, 10, 11, 12, 13, 14] rfl) (hD.sub (ws' := (wR ad ca P S G)) [0, 1, 2, 3, 4, 5, 6, 7, 8, 9, 10, 11, 12, 13, 14, 15, 16, 17] (by decide) rfl)⟩ rfl rfl hl.1 rfl (lv_room (Nat.le_of_ble_eq_true rfl)) d_R_shift_2 ⟨Nat.le_of_ble_eq_true rfl, Nat.le_of_ble_eq_true rfl⟩) hP hD hS hA [0, 1, 2, 3, 4, 5, 6, 7, 8, 9, 10, 11, 12, 13, 14, 15, 16, 17] [] rfl rfl (by decide) (by decide) (fun u_1 H locs hu_1 hP hD hS => ?_)
  replace hP := hP.sub (ws' := wR ad ca P S G) [0, 1, 2, 3, 4, 5, 6, 7, 8, 9, 10, 11, 12, 13, 14, 15, 16, 17] rfl
  replace hD := hD.sub (ws' := wR ad ca P S G) [0, 1, 2, 3, 4, 5, 6, 7, 8, 9, 10, 11, 12, 13, 14, 15, 16, 17] (by decide) rfl
  refine lv_aload_n hx hb d_R_shift_5 rfl (lv_at hl 0 rfl) ?_
  refine lv_iload_n hx hb d_R_shift_6 rfl (lv_at hl 2 rfl) ?_
  refine nr_callv (wr := ([] : va_W)) (va_runV (As := [.int (nI d)]) (rest := []) ⟨hx, hb, hml, hown, hts⟩ (r_R_refuseUnknownDay l D ad ca P S G hP0 hS0 hG0 d (by omega) H.size) ⟨callB_of 1 hts (gTB q_R_refuseUnknownDay) rfl rfl rfl (htb _ q1) (htb _ q364) hd_R_refuseUnknownDay ⟨Nat.le_of_ble_eq_true rfl, Nat.le_of_ble_eq_true rfl⟩, (htb _ q366), (htb _ sel_R_refuseUnknownDay)⟩ ⟨rw_blind, va_recv (hK.sub (tys' := []) [] rfl) hP (ci := 2) (q0 := 15) rfl rfl, rw_pre hN (hP.sub (ws' := (wR ad ca P S G)) [0, 1, 2, 3, 4, 5, 6, 7, 8, 9, 10, 11, 12, 13, 14, 15, 16, 17] rfl) (hK.sub (tys' := (tR ca)) [0, 1, 2, 3, 4, 5, 6, 7, 8, 9, 10, 11, 12, 13, 14] rfl) (hD.sub (ws' := (wR ad ca P S G)) [0, 1, 2, 3, 4, 5, 6, 7, 8, 9, 10, 11, 12, 13, 14, 15, 16, 17] (by decide) rfl)⟩ rfl rfl hl.1 rfl (lv_room (Nat.le_of_ble_eq_true rfl)) d_R_shift_7 ⟨Nat.le_of_ble_eq_true rfl, Nat.le_of_ble_eq_true rfl⟩) hP hD hS hA [0, 1, 2, 3, 4, 5, 6, 7, 8, 9, 10, 11, 12, 13, 14, 15, 16, 17] [] rfl rfl (by decide) (by decide) (fun u_2 H locs hu_2 hP hD hS => ?_)
  replace hP := hP.sub (ws' := wR ad ca P S G) [0, 1, 2, 3, 4, 5, 6, 7, 8, 9, 10, 11, 12, 13, 14, 15, 16, 17] rfl
  replace hD := hD.sub (ws' := wR ad ca P S G) [0, 1, 2, 3, 4, 5, 6, 7, 8, 9, 10, 11, 12, 13, 14, 15, 16, 17] (by decide) rfl
  refine lv_aload_n hx hb d_R_shift_10 rfl (lv_at hl 0 rfl) ?_
  refine va_get (D := D) (ci := 2) (v := .ref (ad 16)) (C := R_R) (T := F_R) (N := 6) hx hb htb u_R hown hK hP 15 rfl rfl 2 (by decide) (htb _ q136) (fun _ h9 => h9) rfl d_R_shift_11 ?_
  refine lv_iload_n hx hb d_R_shift_14 rfl (lv_at hl 1 rfl) ?_
  refine lv_iload_n hx hb d_R_shift_15 rfl (lv_at hl 2 rfl) ?_
  refine nr_calli (va_runS (As := [.int (nI p1), .int (nI d)]) (rest := [.ref (ad 16)]) ⟨hx, hb, hml, hown, hts⟩ (c_R_cell l D p1 d) ⟨callB_of 2 hts (gTB q_R_cell) rfl rfl rfl (htb _ q1) (htb _ q208) hd_R_cell ⟨Nat.le_of_ble_eq_true rfl, Nat.le_of_ble_eq_true rfl⟩, (htb _ q174)⟩ ⟨ro_blind, ro_pre hN (hP.sub (ws' := []) [] rfl) (hK.sub (tys' := []) [] rfl)⟩ rfl rfl hl.1 rfl (lv_room (Nat.le_of_ble_eq_true rfl)) d_R_shift_16 ⟨Nat.le_of_ble_eq_true rfl, Nat.le_of_ble_eq_true rfl⟩) (fun r_3 hr_3 => ?_)
  subst hr_3
  refine nr_iald hx hb hK hP 16 13 rfl rfl (by omega) (by decide) d_R_shift_19 ?_
  have hv_4 := hg1 (d * 6 + p1)
  exact W.iret (v := (nI (G 1 (d * 6 + p1)))) hx hb hr (fun t ht hW => ⟨⟨_, (), rfl, rfl, by rw [ht]; exact hP, hD⟩, hS.F ht⟩) hS.2.2 d_R_shift_20
set_option maxHeartbeats 4000000 in
set_option maxRecDepth 100000 in
theorem r_R_wrong (l : Launch) (D : va_G) (ad : Nat → Nat) (ca : Nat → ClassId) (P S G : Nat → Nat → Nat) (hP0 : okP P) (hS0 : okS S) (hG0 : okG G) (sz : Nat) : Met l y_R_wrong w_R_wrong { frames := 5, cells := 0, slots := 0, locals := 115 } (rw_P [.ref (ad 0)] D (wR ad ca P S G) (tR ca) sz) (rw_Qi (fun (r : Int32) (u : Unit) => r = nI (firstFault P (G 1))) D (wR ad ca P S G) (fun u => wR ad ca P S G) sz) 0 0 (va_A (wR ad ca P S G) sz) := by
  refine Met.ofW (cc := b_R_wrong) (maxL := 1) (ret := (some .int)) (by decide) rfl ?_
  intro p e s m args below meth c s₁ B hml hv
  obtain ⟨rfl, hsz, hN, hP, hK, hD0⟩ := hv
  have hx := B.exec
  have hb := B.bytes
  have hr := B.returns
  have hts := atoms_spec (ws := w_R_wrong) B.pre
  have htb : ∀ w ∈ TBG, w.before [.ref (ad 0)].toArray s = true := fun w h => hts w (List.mem_cons_of_mem _ h)
  have hown : s.vm.findClass R_R = some m.cls := findClass_of_methodNamed B.named
  have hlocks := B.notSynchronized
  subst hsz
  have hD := hD0.self (sz := s.heap.size)
  unfold rw_Qi
  generalize hAe : va_A (wR ad ca P S G) s.heap.size = A at hD ⊢
  have hA : ∀ q : Nat, s.heap.size ≤ q → A q := fun q h => by rw [← hAe]; exact Or.inr h
  have hS : va_S A s.heap s.heap [] := va_S.rf
  have hl := lv_entry ([.ref (ad 0)]) (n := 1) (Nat.le_of_ble_eq_true rfl)
  rw [lg_entry_eq]
  generalize (lg_sl ([.ref (ad 0)]) ++ List.replicate (1 - (lg_sl ([.ref (ad 0)])).length) Slot.unset).toArray = ls at hl ⊢
  have hl : lv_has ls 1 [(0, .ref (ad 0))] := hl
  refine nr_start hP hS (fun H locs hP hS => ?_)
  obtain ⟨h00, h01, h02, h03, h04, h05, hp1, hp2, hp3, hp4, hp5, hp6⟩ := id hP0
  obtain ⟨g00, g01, g02, g03, g04, g05, g06, hs1, hs2, hs3, hs4, hs5, hs6, hs7⟩ := id hS0
  obtain ⟨k00, k01, hg1, hg2⟩ := id hG0
  refine lv_aload_n hx hb d_R_wrong_0 rfl (lv_at hl 0 rfl) ?_
  refine va_get (D := D) (ci := 2) (v := .ref (ad 1)) (C := R_R) (T := F_R) (N := 6) hx hb htb u_R hown hK hP 15 rfl rfl 0 (by decide) (htb _ q134) (fun _ h9 => h9) rfl d_R_wrong_1 ?_
  refine lv_aload_n hx hb d_R_wrong_4 rfl (lv_at hl 0 rfl) ?_
  refine va_get (D := D) (ci := 2) (v := .ref (ad 16)) (C := R_R) (T := F_R) (N := 6) hx hb htb u_R hown hK hP 15 rfl rfl 2 (by decide) (htb _ q136) (fun _ h9 => h9) rfl d_R_wrong_5 ?_
  refine nr_calli (va_runVN (As := [.ref (ad 16)]) (rest := []) ⟨hx, hb, hml, hown, hts⟩ (c_P_firstFault l D ad ca P (ad 16) (ca 13) (G 1) hP0 hg1 ) ⟨va_cnB 1 hts (gTB q_P_firstFault) rfl rfl rfl (hN.nw q157 rfl) (htb _ q2) hd_P_firstFault ⟨Nat.le_of_ble_eq_true rfl, Nat.le_of_ble_eq_true rfl⟩, (htb _ q159), (htb _ sel_P_firstFault)⟩ ⟨ro_blind, va_recv (hK.sub (tys' := []) [] rfl) hP (ci := 0) (q0 := 0) rfl rfl, ro_pre hN (hP.sub (ws' := (wPS ad ca P (ad 16) (ca 13) (G 1))) [0, 1, 2, 3, 4, 5, 6, 16] rfl) (hK.sub (tys' := (tPS ca (ca 13))) [0, 1, 2, 3, 4, 5, 13] rfl)⟩ rfl rfl hl.1 rfl (lv_room (Nat.le_of_ble_eq_true rfl)) d_R_wrong_8 ⟨Nat.le_of_ble_eq_true rfl, Nat.le_of_ble_eq_true rfl⟩) (fun r_1 hr_1 => ?_)
  subst hr_1
  exact W.iret (v := (nI (firstFault P (G 1)))) hx hb hr (fun t ht hW => ⟨⟨_, (), rfl, rfl, by rw [ht]; exact hP, hD⟩, hS.F ht⟩) hS.2.2 d_R_wrong_11
set_option maxHeartbeats 4000000 in
set_option maxRecDepth 100000 in
theorem r_R_unmet (l : Launch) (D : va_G) (ad : Nat → Nat) (ca : Nat → ClassId) (P S G : Nat → Nat → Nat) (hP0 : okP P) (hS0 : okS S) (hG0 : okG G) (sz : Nat) : Met l y_R_unmet w_R_unmet { frames := 3, cells := 0, slots := 0, locals := 67 } (rw_P [.ref (ad 0)] D (wR ad ca P S G) (tR ca) sz) (rw_Qi (fun (r : Int32) (u : Unit) => r = nI (unmetSum P (G 1))) D (wR ad ca P S G) (fun u => wR ad ca P S G) sz) 0 0 (va_A (wR ad ca P S G) sz) := by
  refine Met.ofW (cc := b_R_unmet) (maxL := 1) (ret := (some .int)) (by decide) rfl ?_
  intro p e s m args below meth c s₁ B hml hv
  obtain ⟨rfl, hsz, hN, hP, hK, hD0⟩ := hv
  have hx := B.exec
  have hb := B.bytes
  have hr := B.returns
  have hts := atoms_spec (ws := w_R_unmet) B.pre
  have htb : ∀ w ∈ TBG, w.before [.ref (ad 0)].toArray s = true := fun w h => hts w (List.mem_cons_of_mem _ h)
  have hown : s.vm.findClass R_R = some m.cls := findClass_of_methodNamed B.named
  have hlocks := B.notSynchronized
  subst hsz
  have hD := hD0.self (sz := s.heap.size)
  unfold rw_Qi
  generalize hAe : va_A (wR ad ca P S G) s.heap.size = A at hD ⊢
  have hA : ∀ q : Nat, s.heap.size ≤ q → A q := fun q h => by rw [← hAe]; exact Or.inr h
  have hS : va_S A s.heap s.heap [] := va_S.rf
  have hl := lv_entry ([.ref (ad 0)]) (n := 1) (Nat.le_of_ble_eq_true rfl)
  rw [lg_entry_eq]
  generalize (lg_sl ([.ref (ad 0)]) ++ List.replicate (1 - (lg_sl ([.ref (ad 0)])).length) Slot.unset).toArray = ls at hl ⊢
  have hl : lv_has ls 1 [(0, .ref (ad 0))] := hl
  refine nr_start hP hS (fun H locs hP hS => ?_)
  obtain ⟨h00, h01, h02, h03, h04, h05, hp1, hp2, hp3, hp4, hp5, hp6⟩ := id hP0
  obtain ⟨g00, g01, g02, g03, g04, g05, g06, hs1, hs2, hs3, hs4, hs5, hs6, hs7⟩ := id hS0
  obtain ⟨k00, k01, hg1, hg2⟩ := id hG0
  refine lv_aload_n hx hb d_R_unmet_0 rfl (lv_at hl 0 rfl) ?_
  refine va_get (D := D) (ci := 2) (v := .ref (ad 1)) (C := R_R) (T := F_R) (N := 6) hx hb htb u_R hown hK hP 15 rfl rfl 0 (by decide) (htb _ q134) (fun _ h9 => h9) rfl d_R_unmet_1 ?_
  refine lv_aload_n hx hb d_R_unmet_4 rfl (lv_at hl 0 rfl) ?_
  refine va_get (D := D) (ci := 2) (v := .ref (ad 16)) (C := R_R) (T := F_R) (N := 6) hx hb htb u_R hown hK hP 15 rfl rfl 2 (by decide) (htb _ q136) (fun _ h9 => h9) rfl d_R_unmet_5 ?_
  refine nr_calli (va_runVN (As := [.ref (ad 16)]) (rest := []) ⟨hx, hb, hml, hown, hts⟩ (c_P_unmetSum l D ad ca P (ad 16) (ca 13) (G 1) hP0 hg1 ) ⟨va_cnB 1 hts (gTB q_P_unmetSum) rfl rfl rfl (hN.nw q213 rfl) (htb _ q2) hd_P_unmetSum ⟨Nat.le_of_ble_eq_true rfl, Nat.le_of_ble_eq_true rfl⟩, (htb _ q215), (htb _ sel_P_unmetSum)⟩ ⟨ro_blind, va_recv (hK.sub (tys' := []) [] rfl) hP (ci := 0) (q0 := 0) rfl rfl, ro_pre hN (hP.sub (ws' := (wPS ad ca P (ad 16) (ca 13) (G 1))) [0, 1, 2, 3, 4, 5, 6, 16] rfl) (hK.sub (tys' := (tPS ca (ca 13))) [0, 1, 2, 3, 4, 5, 13] rfl)⟩ rfl rfl hl.1 rfl (lv_room (Nat.le_of_ble_eq_true rfl)) d_R_unmet_8 ⟨Nat.le_of_ble_eq_true rfl, Nat.le_of_ble_eq_true rfl⟩) (fun r_1 hr_1 => ?_)
  subst hr_1
  exact W.iret (v := (nI (unmetSum P (G 1)))) hx hb hr (fun t ht hW => ⟨⟨_, (), rfl, rfl, by rw [ht]; exact hP, hD⟩, hS.F ht⟩) hS.2.2 d_R_unmet_11
set_option maxHeartbeats 4000000 in
set_option maxRecDepth 100000 in
theorem r_R_cost (l : Launch) (D : va_G) (ad : Nat → Nat) (ca : Nat → ClassId) (P S G : Nat → Nat → Nat) (hP0 : okP P) (hS0 : okS S) (hG0 : okG G) (sz : Nat) : Met l y_R_cost w_R_cost { frames := 3, cells := 0, slots := 0, locals := 68 } (rw_P [.ref (ad 0)] D (wR ad ca P S G) (tR ca) sz) (rw_Qi (fun (r : Int32) (u : Unit) => r = nI (costAll P (G 1))) D (wR ad ca P S G) (fun u => wR ad ca P S G) sz) 0 0 (va_A (wR ad ca P S G) sz) := by
  refine Met.ofW (cc := b_R_cost) (maxL := 1) (ret := (some .int)) (by decide) rfl ?_
  intro p e s m args below meth c s₁ B hml hv
  obtain ⟨rfl, hsz, hN, hP, hK, hD0⟩ := hv
  have hx := B.exec
  have hb := B.bytes
  have hr := B.returns
  have hts := atoms_spec (ws := w_R_cost) B.pre
  have htb : ∀ w ∈ TBG, w.before [.ref (ad 0)].toArray s = true := fun w h => hts w (List.mem_cons_of_mem _ h)
  have hown : s.vm.findClass R_R = some m.cls := findClass_of_methodNamed B.named
  have hlocks := B.notSynchronized
  subst hsz
  have hD := hD0.self (sz := s.heap.size)
  unfold rw_Qi
  generalize hAe : va_A (wR ad ca P S G) s.heap.size = A at hD ⊢
  have hA : ∀ q : Nat, s.heap.size ≤ q → A q := fun q h => by rw [← hAe]; exact Or.inr h
  have hS : va_S A s.heap s.heap [] := va_S.rf
  have hl := lv_entry ([.ref (ad 0)]) (n := 1) (Nat.le_of_ble_eq_true rfl)
  rw [lg_entry_eq]
  generalize (lg_sl ([.ref (ad 0)]) ++ List.replicate (1 - (lg_sl ([.ref (ad 0)])).length) Slot.unset).toArray = ls at hl ⊢
  have hl : lv_has ls 1 [(0, .ref (ad 0))] := hl
  refine nr_start hP hS (fun H locs hP hS => ?_)
  obtain ⟨h00, h01, h02, h03, h04, h05, hp1, hp2, hp3, hp4, hp5, hp6⟩ := id hP0
  obtain ⟨g00, g01, g02, g03, g04, g05, g06, hs1, hs2, hs3, hs4, hs5, hs6, hs7⟩ := id hS0
  obtain ⟨k00, k01, hg1, hg2⟩ := id hG0
  refine lv_aload_n hx hb d_R_cost_0 rfl (lv_at hl 0 rfl) ?_
  refine va_get (D := D) (ci := 2) (v := .ref (ad 1)) (C := R_R) (T := F_R) (N := 6) hx hb htb u_R hown hK hP 15 rfl rfl 0 (by decide) (htb _ q134) (fun _ h9 => h9) rfl d_R_cost_1 ?_
  refine lv_aload_n hx hb d_R_cost_4 rfl (lv_at hl 0 rfl) ?_
  refine va_get (D := D) (ci := 2) (v := .ref (ad 16)) (C := R_R) (T := F_R) (N := 6) hx hb htb u_R hown hK hP 15 rfl rfl 2 (by decide) (htb _ q136) (fun _ h9 => h9) rfl d_R_cost_5 ?_
  refine nr_calli (va_runVN (As := [.ref (ad 16)]) (rest := []) ⟨hx, hb, hml, hown, hts⟩ (c_P_costOfAll l D ad ca P (ad 16) (ca 13) (G 1) hP0 hg1 ) ⟨va_cnB 1 hts (gTB q_P_costOfAll) rfl rfl rfl (hN.nw q221 rfl) (htb _ q2) hd_P_costOfAll ⟨Nat.le_of_ble_eq_true rfl, Nat.le_of_ble_eq_true rfl⟩, (htb _ q223), (htb _ sel_P_costOfAll)⟩ ⟨ro_blind, va_recv (hK.sub (tys' := []) [] rfl) hP (ci := 0) (q0 := 0) rfl rfl, ro_pre hN (hP.sub (ws' := (wPS ad ca P (ad 16) (ca 13) (G 1))) [0, 1, 2, 3, 4, 5, 6, 16] rfl) (hK.sub (tys' := (tPS ca (ca 13))) [0, 1, 2, 3, 4, 5, 13] rfl)⟩ rfl rfl hl.1 rfl (lv_room (Nat.le_of_ble_eq_true rfl)) d_R_cost_8 ⟨Nat.le_of_ble_eq_true rfl, Nat.le_of_ble_eq_true rfl⟩) (fun r_1 hr_1 => ?_)
  subst hr_1
  exact W.iret (v := (nI (costAll P (G 1)))) hx hb hr (fun t ht hW => ⟨⟨_, (), rfl, rfl, by rw [ht]; exact hP, hD⟩, hS.F ht⟩) hS.2.2 d_R_cost_11
set_option maxHeartbeats 4000000 in
set_option maxRecDepth 100000 in
theorem r_R_share (l : Launch) (D : va_G) (ad : Nat → Nat) (ca : Nat → ClassId) (P S G : Nat → Nat → Nat) (hP0 : okP P) (hS0 : okS S) (hG0 : okG G) (p1 : Nat) (hp : p1 < P 0 0) (hne : costAll P (G 1) ≠ 0) (sz : Nat) : Met l y_R_share w_R_share { frames := 3, cells := 0, slots := 0, locals := 68 } (rw_P [.ref (ad 0), .int (nI p1)] D (wR ad ca P S G) (tR ca) sz) (rw_Qi (fun (r : Int32) (u : Unit) => r = nI (1000 * costOne P (G 1) p1 / costAll P (G 1))) D (wR ad ca P S G) (fun u => wR ad ca P S G) sz) 0 0 (va_A (wR ad ca P S G) sz) := by
  refine Met.ofW (cc := b_R_share) (maxL := 3) (ret := (some .int)) (by decide) rfl ?_
  intro p e s m args below meth c s₁ B hml hv
  obtain ⟨rfl, hsz, hN, hP, hK, hD0⟩ := hv
  have hx := B.exec
  have hb := B.bytes
  have hr := B.returns
  have hts := atoms_spec (ws := w_R_share) B.pre
  have htb : ∀ w ∈ TBG, w.before [.ref (ad 0), .int (nI p1)].toArray s = true := fun w h => hts w (List.mem_cons_of_mem _ h)
  have hown : s.vm.findClass R_R = some m.cls := findClass_of_methodNamed B.named
  have hlocks := B.notSynchronized
  subst hsz
  have hD := hD0.self (sz := s.heap.size)
  unfold rw_Qi
  generalize hAe : va_A (wR ad ca P S G) s.heap.size = A at hD ⊢
  have hA : ∀ q : Nat, s.heap.size ≤ q → A q := fun q h => by rw [← hAe]; exact Or.inr h
  have hS : va_S A s.heap s.heap [] := va_S.rf
  have hl := lv_entry ([.ref (ad 0), .int (nI p1)]) (n := 3) (Nat.le_of_ble_eq_true rfl)
  rw [lg_entry_eq]
  generalize (lg_sl ([.ref (ad 0), .int (nI p1)]) ++ List.replicate (3 - (lg_sl ([.ref (ad 0), .int (nI p1)])).length) Slot.unset).toArray = ls at hl ⊢
  have hl : lv_has ls 3 [(0, .ref (ad 0)), (1, .int (nI p1))] := hl
  refine nr_start hP hS (fun H locs hP hS => ?_)
  obtain ⟨h00, h01, h02, h03, h04, h05, hp1, hp2, hp3, hp4, hp5, hp6⟩ := id hP0
  obtain ⟨g00, g01, g02, g03, g04, g05, g06, hs1, hs2, hs3, hs4, hs5, hs6, hs7⟩ := id hS0
  obtain ⟨k00, k01, hg1, hg2⟩ := id hG0
  have hca := costAll_le hP0 (G 1)
  have hc1 := costOne_le hP0 (G 1)
  have hc2 := hc1 p1
  refine lv_aload_n hx hb d_R_share_0 rfl (lv_at hl 0 rfl) ?_
  refine lv_iload_n hx hb d_R_share_1 rfl (lv_at hl 1 rfl) ?_
  refine nr_callv (wr := ([] : va_W)) (va_runV (As := [.int (nI p1)]) (rest := []) ⟨hx, hb, hml, hown, hts⟩ (r_R_refuseUnknownPerson l D ad ca P S G hP0 hS0 hG0 p1 (by omega) H.size) ⟨callB_of 1 hts (gTB q_R_refuseUnknownPerson) rfl rfl rfl (htb _ q1) (htb _ q409) hd_R_refuseUnknownPerson ⟨Nat.le_of_ble_eq_true rfl, Nat.le_of_ble_eq_true rfl⟩, (htb _ q411), (htb _ sel_R_refuseUnknownPerson)⟩ ⟨rw_blind, va_recv (hK.sub (tys' := []) [] rfl) hP (ci := 2) (q0 := 15) rfl rfl, rw_pre hN (hP.sub (ws' := (wR ad ca P S G)) [0, 1, 2, 3, 4, 5, 6, 7, 8, 9, 10, 11, 12, 13, 14, 15, 16, 17] rfl) (hK.sub (tys' := (tR ca)) [0, 1, 2, 3, 4, 5, 6, 7, 8, 9, 10, 11, 12, 13, 14] rfl) (hD.sub (ws' := (wR ad ca P S G)) [0, 1, 2, 3, 4, 5, 6, 7, 8, 9, 10, 11, 12, 13, 14, 15, 16, 17] (by decide) rfl)⟩ rfl rfl hl.1 rfl (lv_room (Nat.le_of_ble_eq_true rfl)) d_R_share_2 ⟨Nat.le_of_ble_eq_true rfl, Nat.le_of_ble_eq_true rfl⟩) hP hD hS hA [0, 1, 2, 3, 4, 5, 6, 7, 8, 9, 10, 11, 12, 13, 14, 15, 16, 17] [] rfl rfl (by decide) (by decide) (fun u_1 H locs hu_1 hP hD hS => ?_)
  replace hP := hP.sub (ws' := wR ad ca P S G) [0, 1, 2, 3, 4, 5, 6, 7, 8, 9, 10, 11, 12, 13, 14, 15, 16, 17] rfl
  replace hD := hD.sub (ws' := wR ad ca P S G) [0, 1, 2, 3, 4, 5, 6, 7, 8, 9, 10, 11, 12, 13, 14, 15, 16, 17] (by decide) rfl
  refine lv_aload_n hx hb d_R_share_5 rfl (lv_at hl 0 rfl) ?_
  refine va_get (D := D) (ci := 2) (v := .ref (ad 1)) (C := R_R) (T := F_R) (N := 6) hx hb htb u_R hown hK hP 15 rfl rfl 0 (by decide) (htb _ q134) (fun _ h9 => h9) rfl d_R_share_6 ?_
  refine lv_aload_n hx hb d_R_share_9 rfl (lv_at hl 0 rfl) ?_
  refine va_get (D := D) (ci := 2) (v := .ref (ad 16)) (C := R_R) (T := F_R) (N := 6) hx hb htb u_R hown hK hP 15 rfl rfl 2 (by decide) (htb _ q136) (fun _ h9 => h9) rfl d_R_share_10 ?_
  refine nr_calli (va_runVN (As := [.ref (ad 16)]) (rest := []) ⟨hx, hb, hml, hown, hts⟩ (c_P_costOfAll l D ad ca P (ad 16) (ca 13) (G 1) hP0 hg1 ) ⟨va_cnB 1 hts (gTB q_P_costOfAll) rfl rfl rfl (hN.nw q221 rfl) (htb _ q2) hd_P_costOfAll ⟨Nat.le_of_ble_eq_true rfl, Nat.le_of_ble_eq_true rfl⟩, (htb _ q223), (htb _ sel_P_costOfAll)⟩ ⟨ro_blind, va_recv (hK.sub (tys' := []) [] rfl) hP (ci := 0) (q0 := 0) rfl rfl, ro_pre hN (hP.sub (ws' := (wPS ad ca P (ad 16) (ca 13) (G 1))) [0, 1, 2, 3, 4, 5, 6, 16] rfl) (hK.sub (tys' := (tPS ca (ca 13))) [0, 1, 2, 3, 4, 5, 13] rfl)⟩ rfl rfl hl.1 rfl (lv_room (Nat.le_of_ble_eq_true rfl)) d_R_share_13 ⟨Nat.le_of_ble_eq_true rfl, Nat.le_of_ble_eq_true rfl⟩) (fun r_2 hr_2 => ?_)
  subst hr_2
  refine lv_istore_n (lv' := [(2, .int (nI (costAll P (G 1)))), (0, .ref (ad 0)), (1, .int (nI p1))]) hx hb d_R_share_16 rfl hl (by decide) rfl (fun ls hl => ?_)
  refine lv_iload_n hx hb d_R_share_17 rfl (lv_at hl 0 rfl) ?_
  refine nr_if_ne (tgt := 31) hx hb (by omega) d_R_share_18 (by decide) (fun c_18 => ?_) (fun c_18 => by exfalso; omega)
  refine lv_ldc2 (v := lN 1000) hx hb hown (htb _ q564) d_R_share_31 ?_
  refine lv_aload_n hx hb d_R_share_34 rfl (lv_at hl 1 rfl) ?_
  refine va_get (D := D) (ci := 2) (v := .ref (ad 1)) (C := R_R) (T := F_R) (N := 6) hx hb htb u_R hown hK hP 15 rfl rfl 0 (by decide) (htb _ q134) (fun _ h9 => h9) rfl d_R_share_35 ?_
  refine lv_aload_n hx hb d_R_share_38 rfl (lv_at hl 1 rfl) ?_
  refine va_get (D := D) (ci := 2) (v := .ref (ad 16)) (C := R_R) (T := F_R) (N := 6) hx hb htb u_R hown hK hP 15 rfl rfl 2 (by decide) (htb _ q136) (fun _ h9 => h9) rfl d_R_share_39 ?_
  refine lv_iload_n hx hb d_R_share_42 rfl (lv_at hl 2 rfl) ?_
  refine nr_calli (va_runVN (As := [.ref (ad 16), .int (nI p1)]) (rest := [.long (lN 1000)]) ⟨hx, hb, hml, hown, hts⟩ (c_P_costOfOne l D ad ca P (ad 16) (ca 13) (G 1) hP0 hg1 p1 (by omega)) ⟨va_cnB 2 hts (gTB q_P_costOfOne) rfl rfl rfl (hN.nw q565 rfl) (htb _ q2) hd_P_costOfOne ⟨Nat.le_of_ble_eq_true rfl, Nat.le_of_ble_eq_true rfl⟩, (htb _ q227), (htb _ sel_P_costOfOne)⟩ ⟨ro_blind, va_recv (hK.sub (tys' := []) [] rfl) hP (ci := 0) (q0 := 0) rfl rfl, ro_pre hN (hP.sub (ws' := (wPS ad ca P (ad 16) (ca 13) (G 1))) [0, 1, 2, 3, 4, 5, 6, 16] rfl) (hK.sub (tys' := (tPS ca (ca 13))) [0, 1, 2, 3, 4, 5, 13] rfl)⟩ rfl rfl hl.1 rfl (lv_room (Nat.le_of_ble_eq_true rfl)) d_R_share_43 ⟨Nat.le_of_ble_eq_true rfl, Nat.le_of_ble_eq_true rfl⟩) (fun r_3 hr_3 => ?_)
  subst hr_3
  refine nr_i2l hx hb (by omega) d_R_share_46 ?_
  refine nr_lmul hx hb d_R_share_47 ?_
  refine lv_iload_n hx hb d_R_share_48 rfl (lv_at hl 0 rfl) ?_
  refine nr_i2l hx hb (by omega) d_R_share_49 ?_
  refine nr_ldiv hx hb (by omega) (by omega) (by omega) d_R_share_50 ?_
  refine nr_l2i hx hb d_R_share_51 ?_
  exact W.iret (v := (nI ((1000 * (costOne P (G 1) p1)) / (costAll P (G 1))))) hx hb hr (fun t ht hW => ⟨⟨_, (), rfl, rfl, by rw [ht]; exact hP, hD⟩, hS.F ht⟩) hS.2.2 d_R_share_52
set_option maxHeartbeats 4000000 in
set_option maxRecDepth 100000 in
theorem r_R_swap (l : Launch) (D : va_G) (ad : Nat → Nat) (ca : Nat → ClassId) (P S G : Nat → Nat → Nat) (hP0 : okP P) (hS0 : okS S) (hG0 : okG G) (p1 p2 d : Nat) (hp : p1 < P 0 0) (hq : p2 < P 0 0) (hne : p1 ≠ p2) (hd : d < P 0 1) (hfr : G 0 0 ≤ d) (hok : firstFault P (swG G (d * 6 + p1) (d * 6 + p2) 1) = 0) (sz : Nat) : Met l y_R_swap w_R_swap { frames := 5, cells := 0, slots := 0, locals := 115 } (rw_P [.ref (ad 0), .int (nI p1), .int (nI p2), .int (nI d)] D (wR ad ca P S G) (tR ca) sz) (rw_Qv (fun u : Unit => True) D (wR ad ca P S G) (fun u => wR ad ca P S (swG G (d * 6 + p1) (d * 6 + p2))) sz) 0 0 (va_A (wR ad ca P S G) sz) := by
  refine Met.ofW (cc := b_R_swap) (maxL := 4) (ret := none) (by decide) rfl ?_
  intro p e s m args below meth c s₁ B hml hv
  obtain ⟨rfl, hsz, hN, hP, hK, hD0⟩ := hv
  have hx := B.exec
  have hb := B.bytes
  have hr := B.returns
  have hts := atoms_spec (ws := w_R_swap) B.pre
  have htb : ∀ w ∈ TBG, w.before [.ref (ad 0), .int (nI p1), .int (nI p2), .int (nI d)].toArray s = true := fun w h => hts w (List.mem_cons_of_mem _ h)
  have hown : s.vm.findClass R_R = some m.cls := findClass_of_methodNamed B.named
  have hlocks := B.notSynchronized
  subst hsz
  have hD := hD0.self (sz := s.heap.size)
  unfold rw_Qv
  generalize hAe : va_A (wR ad ca P S G) s.heap.size = A at hD ⊢
  have hA : ∀ q : Nat, s.heap.size ≤ q → A q := fun q h => by rw [← hAe]; exact Or.inr h
  have hS : va_S A s.heap s.heap [] := va_S.rf
  have hl := lv_entry ([.ref (ad 0), .int (nI p1), .int (nI p2), .int (nI d)]) (n := 4) (Nat.le_of_ble_eq_true rfl)
  rw [lg_entry_eq]
  generalize (lg_sl ([.ref (ad 0), .int (nI p1), .int (nI p2), .int (nI d)]) ++ List.replicate (4 - (lg_sl ([.ref (ad 0), .int (nI p1), .int (nI p2), .int (nI d)])).length) Slot.unset).toArray = ls at hl ⊢
  have hl : lv_has ls 4 [(0, .ref (ad 0)), (1, .int (nI p1)), (2, .int (nI p2)), (3, .int (nI d))] := hl
  refine nr_start hP hS (fun H locs hP hS => ?_)
  obtain ⟨h00, h01, h02, h03, h04, h05, hp1, hp2, hp3, hp4, hp5, hp6⟩ := id hP0
  obtain ⟨g00, g01, g02, g03, g04, g05, g06, hs1, hs2, hs3, hs4, hs5, hs6, hs7⟩ := id hS0
  obtain ⟨k00, k01, hg1, hg2⟩ := id hG0
  refine lv_aload_n hx hb d_R_swap_0 rfl (lv_at hl 0 rfl) ?_
  refine lv_iload_n hx hb d_R_swap_1 rfl (lv_at hl 1 rfl) ?_
  refine nr_callv (wr := ([] : va_W)) (va_runV (As := [.int (nI p1)]) (rest := []) ⟨hx, hb, hml, hown, hts⟩ (r_R_refuseUnknownPerson l D ad ca P S G hP0 hS0 hG0 p1 (by omega) H.size) ⟨callB_of 1 hts (gTB q_R_refuseUnknownPerson) rfl rfl rfl (htb _ q1) (htb _ q409) hd_R_refuseUnknownPerson ⟨Nat.le_of_ble_eq_true rfl, Nat.le_of_ble_eq_true rfl⟩, (htb _ q411), (htb _ sel_R_refuseUnknownPerson)⟩ ⟨rw_blind, va_recv (hK.sub (tys' := []) [] rfl) hP (ci := 2) (q0 := 15) rfl rfl, rw_pre hN (hP.sub (ws' := (wR ad ca P S G)) [0, 1, 2, 3, 4, 5, 6, 7, 8, 9, 10, 11, 12, 13, 14, 15, 16, 17] rfl) (hK.sub (tys' := (tR ca)) [0, 1, 2, 3, 4, 5, 6, 7, 8, 9, 10, 11, 12, 13, 14] rfl) (hD.sub (ws' := (wR ad ca P S G)) [0, 1, 2, 3, 4, 5, 6, 7, 8, 9, 10, 11, 12, 13, 14, 15, 16, 17] (by decide) rfl)⟩ rfl rfl hl.1 rfl (lv_room (Nat.le_of_ble_eq_true rfl)) d_R_swap_2 ⟨Nat.le_of_ble_eq_true rfl, Nat.le_of_ble_eq_true rfl⟩) hP hD hS hA [0, 1, 2, 3, 4, 5, 6, 7, 8, 9, 10, 11, 12, 13, 14, 15, 16, 17] [] rfl rfl (by decide) (by decide) (fun u_1 H locs hu_1 hP hD hS => ?_)
  replace hP := hP.sub (ws' := wR ad ca P S G) [0, 1, 2, 3, 4, 5, 6, 7, 8, 9, 10, 11, 12, 13, 14, 15, 16, 17] rfl
  replace hD := hD.sub (ws' := wR ad ca P S G) [0, 1, 2, 3, 4, 5, 6, 7, 8, 9, 10, 11, 12, 13, 14, 15, 16, 17] (by decide) rfl
  refine lv_aload_n hx hb d_R_swap_5 rfl (lv_at hl 0 rfl) ?_
  refine lv_iload_n hx hb d_R_swap_6 rfl (lv_at hl 2 rfl) ?_
  refine nr_callv (wr := ([] : va_W)) (va_runV (As := [.int (nI p2)]) (rest := []) ⟨hx, hb, hml, hown, hts⟩ (r_R_refuseUnknownPerson l D ad ca P S G hP0 hS0 hG0 p2 (by omega) H.size) ⟨callB_of 1 hts (gTB q_R_refuseUnknownPerson) rfl rfl rfl (htb _ q1) (htb _ q409) hd_R_refuseUnknownPerson ⟨Nat.le_of_ble_eq_true rfl, Nat.le_of_ble_eq_true rfl⟩, (htb _ q411), (htb _ sel_R_refuseUnknownPerson)⟩ ⟨rw_blind, va_recv (hK.sub (tys' := []) [] rfl) hP (ci := 2) (q0 := 15) rfl rfl, rw_pre hN (hP.sub (ws' := (wR ad ca P S G)) [0, 1, 2, 3, 4, 5, 6, 7, 8, 9, 10, 11, 12, 13, 14, 15, 16, 17] rfl) (hK.sub (tys' := (tR ca)) [0, 1, 2, 3, 4, 5, 6, 7, 8, 9, 10, 11, 12, 13, 14] rfl) (hD.sub (ws' := (wR ad ca P S G)) [0, 1, 2, 3, 4, 5, 6, 7, 8, 9, 10, 11, 12, 13, 14, 15, 16, 17] (by decide) rfl)⟩ rfl rfl hl.1 rfl (lv_room (Nat.le_of_ble_eq_true rfl)) d_R_swap_7 ⟨Nat.le_of_ble_eq_true rfl, Nat.le_of_ble_eq_true rfl⟩) hP hD hS hA [0, 1, 2, 3, 4, 5, 6, 7, 8, 9, 10, 11, 12, 13, 14, 15, 16, 17] [] rfl rfl (by decide) (by decide) (fun u_2 H locs hu_2 hP hD hS => ?_)
  replace hP := hP.sub (ws' := wR ad ca P S G) [0, 1, 2, 3, 4, 5, 6, 7, 8, 9, 10, 11, 12, 13, 14, 15, 16, 17] rfl
  replace hD := hD.sub (ws' := wR ad ca P S G) [0, 1, 2, 3, 4, 5, 6, 7, 8, 9, 10, 11, 12, 13, 14, 15, 16, 17] (by decide) rfl
  refine lv_iload_n hx hb d_R_swap_10 rfl (lv_at hl 1 rfl) ?_
  refine lv_iload_n hx hb d_R_swap_11 rfl (lv_at hl 2 rfl) ?_
  refine nr_callv (wr := ([0, 1, 2, 3, 4, 5, 6, 7, 8, 9, 10, 11, 12, 13, 14, 15, 16, 17] : List Nat).filterMap (fun i => (wR ad ca P S G : va_W)[i]?)) (va_runS (As := [.int (nI p1), .int (nI p2)]) (rest := []) ⟨hx, hb, hml, hown, hts⟩ (r_R_refuseSame l D p1 p2 (by omega) (by omega) (by omega) H.size) ⟨callB_of 2 hts (gTB q_R_refuseSame) rfl rfl rfl (htb _ q1) (htb _ q524) hd_R_refuseSame ⟨Nat.le_of_ble_eq_true rfl, Nat.le_of_ble_eq_true rfl⟩, (htb _ q525)⟩ ⟨rw_blind, rw_pre hN (hP.sub (ws' := []) [] rfl) (hK.sub (tys' := []) [] rfl) (hD.sub (ws' := []) [] (by decide) rfl)⟩ rfl rfl hl.1 rfl (lv_room (Nat.le_of_ble_eq_true rfl)) d_R_swap_12 ⟨Nat.le_of_ble_eq_true rfl, Nat.le_of_ble_eq_true rfl⟩) hP hD hS hA [] [0, 1, 2, 3, 4, 5, 6, 7, 8, 9, 10, 11, 12, 13, 14, 15, 16, 17] rfl rfl (by decide) (by decide) (fun u_3 H locs hu_3 hP hD hS => ?_)
  replace hP := hP.sub (ws' := wR ad ca P S G) [0, 1, 2, 3, 4, 5, 6, 7, 8, 9, 10, 11, 12, 13, 14, 15, 16, 17] rfl
  replace hD := hD.sub (ws' := wR ad ca P S G) [0, 1, 2, 3, 4, 5, 6, 7, 8, 9, 10, 11, 12, 13, 14, 15, 16, 17] (by decide) rfl
  refine lv_aload_n hx hb d_R_swap_15 rfl (lv_at hl 0 rfl) ?_
  refine lv_iload_n hx hb d_R_swap_16 rfl (lv_at hl 3 rfl) ?_
  refine nr_callv (wr := ([] : va_W)) (va_runV (As := [.int (nI d)]) (rest := []) ⟨hx, hb, hml, hown, hts⟩ (r_R_refuseUnknownDay l D ad ca P S G hP0 hS0 hG0 d (by omega) H.size) ⟨callB_of 1 hts (gTB q_R_refuseUnknownDay) rfl rfl rfl (htb _ q1) (htb _ q364) hd_R_refuseUnknownDay ⟨Nat.le_of_ble_eq_true rfl, Nat.le_of_ble_eq_true rfl⟩, (htb _ q366), (htb _ sel_R_refuseUnknownDay)⟩ ⟨rw_blind, va_recv (hK.sub (tys' := []) [] rfl) hP (ci := 2) (q0 := 15) rfl rfl, rw_pre hN (hP.sub (ws' := (wR ad ca P S G)) [0, 1, 2, 3, 4, 5, 6, 7, 8, 9, 10, 11, 12, 13, 14, 15, 16, 17] rfl) (hK.sub (tys' := (tR ca)) [0, 1, 2, 3, 4, 5, 6, 7, 8, 9, 10, 11, 12, 13, 14] rfl) (hD.sub (ws' := (wR ad ca P S G)) [0, 1, 2, 3, 4, 5, 6, 7, 8, 9, 10, 11, 12, 13, 14, 15, 16, 17] (by decide) rfl)⟩ rfl rfl hl.1 rfl (lv_room (Nat.le_of_ble_eq_true rfl)) d_R_swap_17 ⟨Nat.le_of_ble_eq_true rfl, Nat.le_of_ble_eq_true rfl⟩) hP hD hS hA [0, 1, 2, 3, 4, 5, 6, 7, 8, 9, 10, 11, 12, 13, 14, 15, 16, 17] [] rfl rfl (by decide) (by decide) (fun u_4 H locs hu_4 hP hD hS => ?_)
  replace hP := hP.sub (ws' := wR ad ca P S G) [0, 1, 2, 3, 4, 5, 6, 7, 8, 9, 10, 11, 12, 13, 14, 15, 16, 17] rfl
  replace hD := hD.sub (ws' := wR ad ca P S G) [0, 1, 2, 3, 4, 5, 6, 7, 8, 9, 10, 11, 12, 13, 14, 15, 16, 17] (by decide) rfl
  refine lv_aload_n hx hb d_R_swap_20 rfl (lv_at hl 0 rfl) ?_
  refine lv_iload_n hx hb d_R_swap_21 rfl (lv_at hl 3 rfl) ?_
  refine nr_callv (wr := ([] : va_W)) (va_runV (As := [.int (nI d)]) (rest := []) ⟨hx, hb, hml, hown, hts⟩ (r_R_refuseFrozen l D ad ca P S G hP0 hS0 hG0 d (by omega) (by omega) H.size) ⟨callB_of 1 hts (gTB q_R_refuseFrozen) rfl rfl rfl (htb _ q1) (htb _ q422) hd_R_refuseFrozen ⟨Nat.le_of_ble_eq_true rfl, Nat.le_of_ble_eq_true rfl⟩, (htb _ q424), (htb _ sel_R_refuseFrozen)⟩ ⟨rw_blind, va_recv (hK.sub (tys' := []) [] rfl) hP (ci := 2) (q0 := 15) rfl rfl, rw_pre hN (hP.sub (ws' := (wR ad ca P S G)) [0, 1, 2, 3, 4, 5, 6, 7, 8, 9, 10, 11, 12, 13, 14, 15, 16, 17] rfl) (hK.sub (tys' := (tR ca)) [0, 1, 2, 3, 4, 5, 6, 7, 8, 9, 10, 11, 12, 13, 14] rfl) (hD.sub (ws' := (wR ad ca P S G)) [0, 1, 2, 3, 4, 5, 6, 7, 8, 9, 10, 11, 12, 13, 14, 15, 16, 17] (by decide) rfl)⟩ rfl rfl hl.1 rfl (lv_room (Nat.le_of_ble_eq_true rfl)) d_R_swap_22 ⟨Nat.le_of_ble_eq_true rfl, Nat.le_of_ble_eq_true rfl⟩) hP hD hS hA [0, 1, 2, 3, 4, 5, 6, 7, 8, 9, 10, 11, 12, 13, 14, 15, 16, 17] [] rfl rfl (by decide) (by decide) (fun u_5 H locs hu_5 hP hD hS => ?_)
  replace hP := hP.sub (ws' := wR ad ca P S G) [0, 1, 2, 3, 4, 5, 6, 7, 8, 9, 10, 11, 12, 13, 14, 15, 16, 17] rfl
  replace hD := hD.sub (ws' := wR ad ca P S G) [0, 1, 2, 3, 4, 5, 6, 7, 8, 9, 10, 11, 12, 13, 14, 15, 16, 17] (by decide) rfl
  refine lv_aload_n hx hb d_R_swap_25 rfl (lv_at hl 0 rfl) ?_
  refine lv_iload_n hx hb d_R_swap_26 rfl (lv_at hl 1 rfl) ?_
  refine lv_iload_n hx hb d_R_swap_27 rfl (lv_at hl 3 rfl) ?_
  refine nr_calli (va_runS (As := [.int (nI p1), .int (nI d)]) (rest := [.ref (ad 0)]) ⟨hx, hb, hml, hown, hts⟩ (c_R_cell l D p1 d) ⟨callB_of 2 hts (gTB q_R_cell) rfl rfl rfl (htb _ q1) (htb _ q208) hd_R_cell ⟨Nat.le_of_ble_eq_true rfl, Nat.le_of_ble_eq_true rfl⟩, (htb _ q174)⟩ ⟨ro_blind, ro_pre hN (hP.sub (ws' := []) [] rfl) (hK.sub (tys' := []) [] rfl)⟩ rfl rfl hl.1 rfl (lv_room (Nat.le_of_ble_eq_true rfl)) d_R_swap_28 ⟨Nat.le_of_ble_eq_true rfl, Nat.le_of_ble_eq_true rfl⟩) (fun r_6 hr_6 => ?_)
  subst hr_6
  refine lv_iload_n hx hb d_R_swap_31 rfl (lv_at hl 2 rfl) ?_
  refine lv_iload_n hx hb d_R_swap_32 rfl (lv_at hl 3 rfl) ?_
  refine nr_calli (va_runS (As := [.int (nI p2), .int (nI d)]) (rest := [.int (nI (d * 6 + p1)), .ref (ad 0)]) ⟨hx, hb, hml, hown, hts⟩ (c_R_cell l D p2 d) ⟨callB_of 2 hts (gTB q_R_cell) rfl rfl rfl (htb _ q1) (htb _ q208) hd_R_cell ⟨Nat.le_of_ble_eq_true rfl, Nat.le_of_ble_eq_true rfl⟩, (htb _ q174)⟩ ⟨ro_blind, ro_pre hN (hP.sub (ws' := []) [] rfl) (hK.sub (tys' := []) [] rfl)⟩ rfl rfl hl.1 rfl (lv_room (Nat.le_of_ble_eq_true rfl)) d_R_swap_33 ⟨Nat.le_of_ble_eq_true rfl, Nat.le_of_ble_eq_true rfl⟩) (fun r_7 hr_7 => ?_)
  subst hr_7
  refine nr_callv (wr := ([] : va_W)) (va_runV (As := [.int (nI (d * 6 + p1)), .int (nI (d * 6 + p2))]) (rest := []) ⟨hx, hb, hml, hown, hts⟩ (r_R_exchange l D ad ca P S G hP0 hS0 hG0 (d * 6 + p1) (d * 6 + p2) (by omega) (by omega) H.size) ⟨callB_of 2 hts (gTB q_R_exchange) rfl rfl rfl (htb _ q1) (htb _ q528) hd_R_exchange ⟨Nat.le_of_ble_eq_true rfl, Nat.le_of_ble_eq_true rfl⟩, (htb _ q530), (htb _ sel_R_exchange)⟩ ⟨rw_blind, va_recv (hK.sub (tys' := []) [] rfl) hP (ci := 2) (q0 := 15) rfl rfl, rw_pre hN (hP.sub (ws' := (wR ad ca P S G)) [0, 1, 2, 3, 4, 5, 6, 7, 8, 9, 10, 11, 12, 13, 14, 15, 16, 17] rfl) (hK.sub (tys' := (tR ca)) [0, 1, 2, 3, 4, 5, 6, 7, 8, 9, 10, 11, 12, 13, 14] rfl) (hD.sub (ws' := (wR ad ca P S G)) [0, 1, 2, 3, 4, 5, 6, 7, 8, 9, 10, 11, 12, 13, 14, 15, 16, 17] (by decide) rfl)⟩ rfl rfl hl.1 rfl (lv_room (Nat.le_of_ble_eq_true rfl)) d_R_swap_36 ⟨Nat.le_of_ble_eq_true rfl, Nat.le_of_ble_eq_true rfl⟩) hP hD hS hA [0, 1, 2, 3, 4, 5, 6, 7, 8, 9, 10, 11, 12, 13, 14, 15, 16, 17] [] rfl rfl (by decide) (by decide) (fun u_8 H locs hu_8 hP hD hS => ?_)
  replace hP := hP.sub (ws' := wR ad ca P S (swG G (d * 6 + p1) (d * 6 + p2))) [0, 1, 2, 3, 4, 5, 6, 7, 8, 9, 10, 11, 12, 13, 14, 15, 16, 17] rfl
  replace hD := hD.sub (ws' := wR ad ca P S (swG G (d * 6 + p1) (d * 6 + p2))) [0, 1, 2, 3, 4, 5, 6, 7, 8, 9, 10, 11, 12, 13, 14, 15, 16, 17] (by decide) rfl
  have hG1 : okG (swG G (d * 6 + p1) (d * 6 + p2)) := okg_sw hG0
  refine lv_aload_n hx hb d_R_swap_39 rfl (lv_at hl 0 rfl) ?_
  refine va_get (D := D) (ci := 2) (v := .ref (ad 1)) (C := R_R) (T := F_R) (N := 6) hx hb htb u_R hown hK hP 15 rfl rfl 0 (by decide) (htb _ q134) (fun _ h9 => h9) rfl d_R_swap_40 ?_
  refine lv_aload_n hx hb d_R_swap_43 rfl (lv_at hl 0 rfl) ?_
  refine va_get (D := D) (ci := 2) (v := .ref (ad 16)) (C := R_R) (T := F_R) (N := 6) hx hb htb u_R hown hK hP 15 rfl rfl 2 (by decide) (htb _ q136) (fun _ h9 => h9) rfl d_R_swap_44 ?_
  refine nr_calli (va_runVN (As := [.ref (ad 16)]) (rest := []) ⟨hx, hb, hml, hown, hts⟩ (c_P_firstFault l D ad ca P (ad 16) (ca 13) ((swG G (d * 6 + p1) (d * 6 + p2)) 1) hP0 hG1.2.2.1 ) ⟨va_cnB 1 hts (gTB q_P_firstFault) rfl rfl rfl (hN.nw q157 rfl) (htb _ q2) hd_P_firstFault ⟨Nat.le_of_ble_eq_true rfl, Nat.le_of_ble_eq_true rfl⟩, (htb _ q159), (htb _ sel_P_firstFault)⟩ ⟨ro_blind, va_recv (hK.sub (tys' := []) [] rfl) hP (ci := 0) (q0 := 0) rfl rfl, ro_pre hN (hP.sub (ws' := (wPS ad ca P (ad 16) (ca 13) ((swG G (d * 6 + p1) (d * 6 + p2)) 1))) [0, 1, 2, 3, 4, 5, 6, 16] rfl) (hK.sub (tys' := (tPS ca (ca 13))) [0, 1, 2, 3, 4, 5, 13] rfl)⟩ rfl rfl hl.1 rfl (lv_room (Nat.le_of_ble_eq_true rfl)) d_R_swap_47 ⟨Nat.le_of_ble_eq_true rfl, Nat.le_of_ble_eq_true rfl⟩) (fun r_9 hr_9 => ?_)
  subst hr_9
  refine nr_if_eq (tgt := 77) hx hb (by omega) d_R_swap_50 (by decide) (fun c_50 => ?_) (fun c_50 => by exfalso; omega)
  exact W.vret hx hb hr (fun t ht hW => ⟨⟨(), rfl, trivial, by rw [ht]; exact hP, hD⟩, hS.F ht⟩) hS.2.2 d_R_swap_77
set_option maxHeartbeats 4000000 in
set_option maxRecDepth 100000 in
theorem r_R_solve (l : Launch) (D : va_G) (ad : Nat → Nat) (ca : Nat → ClassId) (P S G : Nat → Nat → Nat) (hP0 : okP P) (hS0 : okS S) (hG0 : okG G) (lim : Nat) (hlim : lim ≤ 20000) (hout : ∀ k, ¬ (k % 6 < P 0 0 ∧ k / 6 < P 0 1) → G 1 k = 0) (hcap : ∀ (t : Nat → Nat) (e q : Nat), (∀ k, t k ≤ 3) → q < P 0 0 → e < P 0 1 → unm P t e q ≤ 2000) (sz : Nat) : Met l y_R_solve w_R_solve { frames := 6, cells := 0, slots := 0, locals := 144 } (rw_P [.ref (ad 0), .int (nI lim)] D (wR ad ca P S G) (tR ca) sz) (rw_Qi (fun (r : Int32) (u : Nat → Nat → Nat) => solR u (slv P (G 1) (G 0 0) lim) r) D (wR ad ca P S G) (fun u => wR ad ca P u (svG G (slv P (G 1) (G 0 0) lim))) sz) 0 0 (va_A (wR ad ca P S G) sz) := by
  refine Met.ofW (cc := b_R_solve) (maxL := 2) (ret := (some .int)) (by decide) rfl ?_
  intro p e s m args below meth c s₁ B hml hv
  obtain ⟨rfl, hsz, hN, hP, hK, hD0⟩ := hv
  have hx := B.exec
  have hb := B.bytes
  have hr := B.returns
  have hts := atoms_spec (ws := w_R_solve) B.pre
  have htb : ∀ w ∈ TBG, w.before [.ref (ad 0), .int (nI lim)].toArray s = true := fun w h => hts w (List.mem_cons_of_mem _ h)
  have hown : s.vm.findClass R_R = some m.cls := findClass_of_methodNamed B.named
  have hlocks := B.notSynchronized
  subst hsz
  have hD := hD0.self (sz := s.heap.size)
  unfold rw_Qi
  generalize hAe : va_A (wR ad ca P S G) s.heap.size = A at hD ⊢
  have hA : ∀ q : Nat, s.heap.size ≤ q → A q := fun q h => by rw [← hAe]; exact Or.inr h
  have hS : va_S A s.heap s.heap [] := va_S.rf
  have hl := lv_entry ([.ref (ad 0), .int (nI lim)]) (n := 2) (Nat.le_of_ble_eq_true rfl)
  rw [lg_entry_eq]
  generalize (lg_sl ([.ref (ad 0), .int (nI lim)]) ++ List.replicate (2 - (lg_sl ([.ref (ad 0), .int (nI lim)])).length) Slot.unset).toArray = ls at hl ⊢
  have hl : lv_has ls 2 [(0, .ref (ad 0)), (1, .int (nI lim))] := hl
  refine nr_start hP hS (fun H locs hP hS => ?_)
  obtain ⟨h00, h01, h02, h03, h04, h05, hp1, hp2, hp3, hp4, hp5, hp6⟩ := id hP0
  obtain ⟨g00, g01, g02, g03, g04, g05, g06, hs1, hs2, hs3, hs4, hs5, hs6, hs7⟩ := id hS0
  obtain ⟨k00, k01, hg1, hg2⟩ := id hG0
  refine lv_iload_n hx hb d_R_solve_0 rfl (lv_at hl 1 rfl) ?_
  refine nr_iconst hx hb 0 d_R_solve_1 (by decide) ?_
  refine nr_sipush hx hb 20000 d_R_solve_2 (by decide) ?_
  refine nr_callv (wr := ([0, 1, 2, 3, 4, 5, 6, 7, 8, 9, 10, 11, 12, 13, 14, 15, 16, 17] : List Nat).filterMap (fun i => (wR ad ca P S G : va_W)[i]?)) (va_runS (As := [.int (nI lim), .int (nI 0), .int (nI 20000)]) (rest := []) ⟨hx, hb, hml, hown, hts⟩ (r_R_refuseOutside l D lim 0 20000 (by omega) (by omega) (by omega) H.size) ⟨callB_of 3 hts (gTB q_R_refuseOutside) rfl rfl rfl (htb _ q1) (htb _ q244) hd_R_refuseOutside ⟨Nat.le_of_ble_eq_true rfl, Nat.le_of_ble_eq_true rfl⟩, (htb _ q245)⟩ ⟨rw_blind, rw_pre hN (hP.sub (ws' := []) [] rfl) (hK.sub (tys' := []) [] rfl) (hD.sub (ws' := []) [] (by decide) rfl)⟩ rfl rfl hl.1 rfl (lv_room (Nat.le_of_ble_eq_true rfl)) d_R_solve_5 ⟨Nat.le_of_ble_eq_true rfl, Nat.le_of_ble_eq_true rfl⟩) hP hD hS hA [] [0, 1, 2, 3, 4, 5, 6, 7, 8, 9, 10, 11, 12, 13, 14, 15, 16, 17] rfl rfl (by decide) (by decide) (fun u_1 H locs hu_1 hP hD hS => ?_)
  replace hP := hP.sub (ws' := wR ad ca P S G) [0, 1, 2, 3, 4, 5, 6, 7, 8, 9, 10, 11, 12, 13, 14, 15, 16, 17] rfl
  replace hD := hD.sub (ws' := wR ad ca P S G) [0, 1, 2, 3, 4, 5, 6, 7, 8, 9, 10, 11, 12, 13, 14, 15, 16, 17] (by decide) rfl
  refine lv_aload_n hx hb d_R_solve_8 rfl (lv_at hl 0 rfl) ?_
  refine va_get (D := D) (ci := 2) (v := .ref (ad 2)) (C := R_R) (T := F_R) (N := 6) hx hb htb u_R hown hK hP 15 rfl rfl 1 (by decide) (htb _ q135) (fun _ h9 => h9) rfl d_R_solve_9 ?_
  refine lv_aload_n hx hb d_R_solve_12 rfl (lv_at hl 0 rfl) ?_
  refine va_get (D := D) (ci := 2) (v := .ref (ad 16)) (C := R_R) (T := F_R) (N := 6) hx hb htb u_R hown hK hP 15 rfl rfl 2 (by decide) (htb _ q136) (fun _ h9 => h9) rfl d_R_solve_13 ?_
  refine lv_aload_n hx hb d_R_solve_16 rfl (lv_at hl 0 rfl) ?_
  refine va_get (D := D) (ci := 2) (v := .int (nI (G 0 0))) (C := R_R) (T := F_R) (N := 6) hx hb htb u_R hown hK hP 15 rfl rfl 4 (by decide) (htb _ q138) (fun _ h9 => h9) rfl d_R_solve_17 ?_
  refine lv_iload_n hx hb d_R_solve_20 rfl (lv_at hl 1 rfl) ?_
  refine nr_callv (wr := ([15, 17] : List Nat).filterMap (fun i => (wR ad ca P S G : va_W)[i]?)) (va_runVN (As := [.ref (ad 16), .int (nI (G 0 0)), .int (nI lim)]) (rest := []) ⟨hx, hb, hml, hown, hts⟩ (c_S_run l D ad ca P S (ad 16) (ca 13) (G 1) hP0 hS0 hg1 (G 0 0) lim k00 hlim hout hcap H.size) ⟨va_cnB 3 hts (gTB q_S_run) rfl rfl rfl (hN.nw q467 rfl) (htb _ q3) hd_S_run ⟨Nat.le_of_ble_eq_true rfl, Nat.le_of_ble_eq_true rfl⟩, (htb _ q469), (htb _ sel_S_run)⟩ ⟨rw_blind, va_recv (hK.sub (tys' := []) [] rfl) hP (ci := 1) (q0 := 7) rfl rfl, rw_pre hN (hP.sub (ws' := (wSP ad ca P S (ad 16) (ca 13) (G 1))) [0, 1, 2, 3, 4, 5, 6, 7, 8, 9, 10, 11, 12, 13, 14, 16] rfl) (hK.sub (tys' := (tSP ca (ca 13))) [0, 1, 2, 3, 4, 5, 6, 7, 8, 9, 10, 11, 12, 13] rfl) (hD.sub (ws' := (wSP ad ca P S (ad 16) (ca 13) (G 1))) [0, 1, 2, 3, 4, 5, 6, 7, 8, 9, 10, 11, 12, 13, 14, 16] (by decide) rfl)⟩ rfl rfl hl.1 rfl (lv_room (Nat.le_of_ble_eq_true rfl)) d_R_solve_21 ⟨Nat.le_of_ble_eq_true rfl, Nat.le_of_ble_eq_true rfl⟩) hP hD hS hA [0, 1, 2, 3, 4, 5, 6, 7, 8, 9, 10, 11, 12, 13, 14, 16] [15, 17] rfl rfl (by decide) (by decide) (fun u_2 H locs hu_2 hP hD hS => ?_)
  replace hP := hP.sub (ws' := wR ad ca P u_2 G) [2, 3, 4, 5, 6, 7, 8, 9, 10, 11, 12, 13, 14, 15, 16, 0, 17, 1] rfl
  replace hD := hD.sub (ws' := wR ad ca P u_2 G) [2, 3, 4, 5, 6, 7, 8, 9, 10, 11, 12, 13, 14, 15, 16, 0, 17, 1] (by decide) rfl
  obtain ⟨ok1, e6, e2, e3, e4⟩ := id hu_2
  obtain ⟨i00, i01, i02, i03, i04, i05, i06, is1, is2, is3, is4, is5, is6, is7⟩ := id ok1
  refine lv_aload_n hx hb d_R_solve_24 rfl (lv_at hl 0 rfl) ?_
  refine va_get (D := D) (ci := 2) (v := .ref (ad 2)) (C := R_R) (T := F_R) (N := 6) hx hb htb u_R hown hK hP 15 rfl rfl 1 (by decide) (htb _ q135) (fun _ h9 => h9) rfl d_R_solve_25 ?_
  refine va_getN (D := D) (ci := 1) (v := .int (nI (u_2 0 3))) (C := R_S) (T := F_S) (N := 15) hx hb htb u_S hown hK hP 7 rfl rfl 11 (by decide) (hN.at q97 rfl rfl) (fun _ h9 => h9) rfl d_R_solve_28 ?_
  refine nr_if_ne (tgt := 36) hx hb (by omega) d_R_solve_31 (by decide) (fun c_31 => ?_) (fun c_31 => ?_)
  · refine lv_aload_n hx hb d_R_solve_36 rfl (lv_at hl 0 rfl) ?_
    refine va_get (D := D) (ci := 2) (v := .ref (ad 2)) (C := R_R) (T := F_R) (N := 6) hx hb htb u_R hown hK hP 15 rfl rfl 1 (by decide) (htb _ q135) (fun _ h9 => h9) rfl d_R_solve_37 ?_
    refine va_getN (D := D) (ci := 1) (v := .ref (ad 9)) (C := R_S) (T := F_S) (N := 15) hx hb htb u_S hown hK hP 7 rfl rfl 1 (by decide) (hN.at q85 rfl rfl) (fun _ h9 => h9) rfl d_R_solve_40 ?_
    refine nr_iconst hx hb 0 d_R_solve_43 (by decide) ?_
    refine lv_aload_n hx hb d_R_solve_44 rfl (lv_at hl 0 rfl) ?_
    refine va_get (D := D) (ci := 2) (v := .ref (ad 16)) (C := R_R) (T := F_R) (N := 6) hx hb htb u_R hown hK hP 15 rfl rfl 2 (by decide) (htb _ q136) (fun _ h9 => h9) rfl d_R_solve_45 ?_
    refine nr_iconst hx hb 0 d_R_solve_48 (by decide) ?_
    refine nr_bipush hx hb 42 d_R_solve_49 (by decide) ?_
    refine nr_copy hx hb (hml.trans hl.1.symm) hown (htb _ q233) (htb _ q235) (htb _ q234) (htb _ q12) hK hP hD hS 8 16 6 13 rfl rfl rfl rfl (Nat.le_of_ble_eq_true rfl) (Nat.le_of_ble_eq_true rfl) d_R_solve_51 (fun H locs hP hD hS => ?_)
    replace hP : va_P D cls (wR ad ca P u_2 (upr G 1 (u_2 1))) H := hP
    replace hD : va_D A (wR ad ca P u_2 (upr G 1 (u_2 1))) := hD
    refine lv_aload_n hx hb d_R_solve_54 rfl (lv_at hl 0 rfl) ?_
    refine va_get (D := D) (ci := 2) (v := .ref (ad 2)) (C := R_R) (T := F_R) (N := 6) hx hb htb u_R hown hK hP 15 rfl rfl 1 (by decide) (htb _ q135) (fun _ h9 => h9) rfl d_R_solve_55 ?_
    refine va_getN (D := D) (ci := 1) (v := .int (nI (u_2 0 4))) (C := R_S) (T := F_S) (N := 15) hx hb htb u_S hown hK hP 7 rfl rfl 12 (by decide) (hN.at q99 rfl rfl) (fun _ h9 => h9) rfl d_R_solve_58 ?_
    have hsv : svG G (slv P (G 1) (G 0 0) lim) = upr G 1 (u_2 1) := by unfold svG; rw [if_pos (by omega), (e4 (by omega)).2]
    have hP : va_P D cls (wR ad ca P u_2 (svG G (slv P (G 1) (G 0 0) lim))) H := by rw [hsv]; exact hP
    have hD : va_D A (wR ad ca P u_2 (svG G (slv P (G 1) (G 0 0) lim))) := by rw [hsv]; exact hD
    exact W.iret (v := (nI (u_2 0 4))) hx hb hr (fun t ht hW => ⟨⟨_, u_2, rfl, ⟨hu_2, fun h => by rw [(e4 h).1], fun h => absurd h (by omega)⟩, by rw [ht]; exact hP, hD⟩, hS.F ht⟩) hS.2.2 d_R_solve_61
  · refine lv_iconst (v := -1) hx hb d_R_solve_34 (by decide) ?_
    have hsv : svG G (slv P (G 1) (G 0 0) lim) = G := by unfold svG; rw [if_neg (by omega)]
    have hP : va_P D cls (wR ad ca P u_2 (svG G (slv P (G 1) (G 0 0) lim))) H := by rw [hsv]; exact hP
    have hD : va_D A (wR ad ca P u_2 (svG G (slv P (G 1) (G 0 0) lim))) := by rw [hsv]; exact hD
    exact W.iret (v := (-1)) hx hb hr (fun t ht hW => ⟨⟨_, u_2, rfl, ⟨hu_2, fun h => absurd h (by omega), fun _ => rfl⟩, by rw [ht]; exact hP, hD⟩, hS.F ht⟩) hS.2.2 d_R_solve_35

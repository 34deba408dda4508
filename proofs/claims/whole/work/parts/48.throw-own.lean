theorem bf1_le {P : Nat → Nat → Nat} {sh : Nat → Nat} {p : Nat} (hp : p ≤ 6) : ∀ (k d : Nat), d + k ≤ 7 → bf1 P sh p k d ≤ 1000
  | 0, _, _ => by rw [bf1]; omega
  | k + 1, d, h => by
    rw [bf1]
    split
    · exact bf1_le hp k (d + 1) (by omega)
    · omega
theorem bf_le {P : Nat → Nat → Nat} {sh : Nat → Nat} (h : P 0 1 ≤ 7) : ∀ (k p : Nat), p + k ≤ 6 → bf P sh k p ≤ 1000
  | 0, _, _ => by rw [bf]; omega
  | k + 1, p, hk => by
    rw [bf]
    split
    · exact bf_le h k (p + 1) (by omega)
    · exact bf1_le (by omega) _ 0 (by omega)
theorem firstFault_le {P : Nat → Nat → Nat} (sh : Nat → Nat) (h0 : P 0 0 ≤ 6) (h : P 0 1 ≤ 7) : firstFault P sh ≤ 1000 := by
  have h1 := needFault_le (P := P) sh h
  have h2 := restFault_le (P := P) sh h0 h
  have h3 := mostFault_le (P := P) sh h0 h
  have h4 := nightsFault_le (P := P) sh h0 h
  have h5 : barFault P sh ≤ 1000 := bf_le h _ 0 (by omega)
  unfold firstFault
  split
  · exact h1
  · split
    · exact h2
    · split
      · exact h3
      · split
        · exact h4
        · exact h5
set_option maxHeartbeats 4000000 in
set_option maxRecDepth 100000 in
theorem t_R_share_2 (l : Launch) (htr : l.stackTraces = false) (D : va_G) (ad : Nat → Nat) (ca : Nat → ClassId) (P S G : Nat → Nat → Nat) (hP0 : okP P) (hS0 : okS S) (hG0 : okG G) (p1 : Nat) (hp : p1 < P 0 0) (hz : costAll P (G 1) = 0) (sz : Nat) : MetT l y_R_share w_R_share { frames := 8, cells := 1, slots := 6, locals := 200 } (tw_P [.ref (ad 0), .int (nI p1)] D (wR ad ca P S G) (tR ca) sz) (tqw "java/lang/ArithmeticException" D (wR ad ca P S G)) 1 6 (va_A (wR ad ca P S G) sz) := by
  refine MetT.ofW (cc := b_R_share) (maxL := 3) (ret := (some .int)) (by decide) rfl ?_
  intro p e s m args below meth c s₁ B hml hv
  obtain ⟨rfl, hsz, hN, hX, hP, hK, hD0⟩ := hv
  have hx := B.exec
  have hb := B.bytes
  have hts := atoms_spec (ws := w_R_share) B.pre
  have htb : ∀ w ∈ TBG, w.before [.ref (ad 0), .int (nI p1)].toArray s = true := fun w h => hts w (List.mem_cons_of_mem _ h)
  have hown : s.vm.findClass R_R = some m.cls := findClass_of_methodNamed B.named
  have hlocks := B.notSynchronized
  subst hsz
  have hD := hD0.self (sz := s.heap.size)
  have hPs := hP
  generalize hAe : va_A (wR ad ca P S G) s.heap.size = A at hD ⊢
  have hA : ∀ q : Nat, s.heap.size ≤ q → A q := fun q h => by rw [← hAe]; exact Or.inr h
  have hS : va_S A s.heap s.heap [] := va_S.rf
  have hl := lv_entry ([.ref (ad 0), .int (nI p1)]) (n := 3) (Nat.le_of_ble_eq_true rfl)
  rw [lg_entry_eq]
  generalize (lg_sl ([.ref (ad 0), .int (nI p1)]) ++ List.replicate (3 - (lg_sl ([.ref (ad 0), .int (nI p1)])).length) Slot.unset).toArray = ls at hl ⊢
  have hl : lv_has ls 3 [(0, .ref (ad 0)), (1, .int (nI p1))] := hl
  refine nr_start hP hS (fun H locs hP hS => ?_)
  obtain ⟨h00, h01, h02, h03, h04, h05, hp1, hp2, hp3, hp4, hp5, hp6⟩ := id hP0
  obtain ⟨g00, g01, g02, g03, g04, g05, g06, hs1, hs2, hs3, hs4, hs5, hs6, hs7⟩ := id hS0
  obtain ⟨k00, k01, hg1, hg2⟩ := id hG0
  have hca := costAll_le hP0 (G 1)
  have hc1 := costOne_le hP0 (G 1)
  refine lv_aload_n hx hb d_R_share_0 rfl (lv_at hl 0 rfl) ?_
  refine lv_iload_n hx hb d_R_share_1 rfl (lv_at hl 1 rfl) ?_
  refine nr_callv (wr := ([] : va_W)) (va_runV (As := [.int (nI p1)]) (rest := []) ⟨hx, hb, hml, hown, hts⟩ (r_R_refuseUnknownPerson l D ad ca P S G hP0 hS0 hG0 p1 (by omega) H.size) ⟨callB_of 1 hts (gTB q_R_refuseUnknownPerson) rfl rfl rfl (htb _ q1) (htb _ q409) hd_R_refuseUnknownPerson ⟨Nat.le_of_ble_eq_true rfl, Nat.le_of_ble_eq_true rfl⟩, (htb _ q411), (htb _ sel_R_refuseUnknownPerson)⟩ ⟨rw_blind, va_recv (hK.sub (tys' := []) [] rfl) hP (ci := 2) (q0 := 15) rfl rfl, rw_pre hN (hP.sub (ws' := (wR ad ca P S G)) [0, 1, 2, 3, 4, 5, 6, 7, 8, 9, 10, 11, 12, 13, 14, 15, 16, 17] rfl) (hK.sub (tys' := (tR ca)) [0, 1, 2, 3, 4, 5, 6, 7, 8, 9, 10, 11, 12, 13, 14] rfl) (hD.sub (ws' := (wR ad ca P S G)) [0, 1, 2, 3, 4, 5, 6, 7, 8, 9, 10, 11, 12, 13, 14, 15, 16, 17] (by decide) rfl)⟩ rfl rfl hl.1 rfl (lv_room (Nat.le_of_ble_eq_true rfl)) d_R_share_2 ⟨Nat.le_of_ble_eq_true rfl, Nat.le_of_ble_eq_true rfl⟩) hP hD hS hA [0, 1, 2, 3, 4, 5, 6, 7, 8, 9, 10, 11, 12, 13, 14, 15, 16, 17] [] rfl rfl (by decide) (by decide) (fun u_1 H locs hu_1 hP hD hS => ?_)
  replace hP := hP.sub (ws' := wR ad ca P S G) [0, 1, 2, 3, 4, 5, 6, 7, 8, 9, 10, 11, 12, 13, 14, 15, 16, 17] rfl
  replace hD := hD.sub (ws' := wR ad ca P S G) [0, 1, 2, 3, 4, 5, 6, 7, 8, 9, 10, 11, 12, 13, 14, 15, 16, 17] (by decide) rfl
  refine lv_aload_n hx hb d_R_share_5 rfl (lv_at hl 0 rfl) ?_
  refine va_get (D := D) (ci := 2) (v := .ref (ad 1)) (C := R_R) (T := F_R) (N := 6) hx hb htb u_R hown hK hP 15 rfl rfl 0 (by decide) (htb _ q134) (fun _ h9 => h9) rfl d_R_share_6 ?_
  refine lv_aload_n hx hb d_R_share_9 rfl (lv_at hl 0 rfl) ?_
  refine va_get (D := D) (ci := 2) (v := .ref (ad 16)) (C := R_R) (T := F_R) (N := 6) hx hb htb u_R hown hK hP 15 rfl rfl 2 (by decide) (htb _ q136) (fun _ h9 => h9) rfl d_R_share_10 ?_
  refine nr_calli (va_runVN (As := [.ref (ad 16)]) (rest := []) ⟨hx, hb, hml, hown, hts⟩ (c_P_costOfAll l D ad ca P (ad 16) (ca 13) (G 1) hP0 hg1 ) ⟨va_cnB 1 hts (gTB q_P_costOfAll) rfl rfl rfl (hN.nw q221 rfl) (htb _ q2) hd_P_costOfAll ⟨Nat.le_of_ble_eq_true rfl, Nat.le_of_ble_eq_true rfl⟩, (htb _ q223), (htb _ sel_P_costOfAll)⟩ ⟨ro_blind, va_recv (hK.sub (tys' := []) [] rfl) hP (ci := 0) (q0 := 0) rfl rfl, ro_pre hN (hP.sub (ws' := (wPS ad ca P (ad 16) (ca 13) (G 1))) [0, 1, 2, 3, 4, 5, 6, 16] rfl) (hK.sub (tys' := (tPS ca (ca 13))) [0, 1, 2, 3, 4, 5, 13] rfl)⟩ rfl rfl hl.1 rfl (lv_room (Nat.le_of_ble_eq_true rfl)) d_R_share_13 ⟨Nat.le_of_ble_eq_true rfl, Nat.le_of_ble_eq_true rfl⟩) (fun r_2 hr_2 => ?_)
  subst hr_2
  refine lv_istore_n (lv' := [(2, .int (nI (costAll P (G 1)))), (0, .ref (ad 0)), (1, .int (nI p1))]) hx hb d_R_share_16 rfl hl (by decide) rfl (fun ls hl => ?_)
  refine lv_iload_n hx hb d_R_share_17 rfl (lv_at hl 0 rfl) ?_
  refine nr_if_ne (tgt := 31) hx hb (by omega) d_R_share_18 (by decide) (fun c_18 => by exfalso; omega) (fun c_18 => ?_)
  intro T hT X
  exact nr_throwAnew (names := ["java/lang/RuntimeException", "java/lang/Exception"]) hx hb htr hown (by decide +kernel) (by decide +kernel) (fun U hU hW => by
          have htb2 := tbg_warm (a' := [.ref (ad 0), .int (nI p1)].toArray) htb hW
          have hX2 := tx_keep hX hPs (by rw [hAe]; exact hS) U hU hW
          exact ⟨oa_AE htb2 (hX2.words _), (htb2 _ (tbm 548 rfl rfl)), (htb2 _ (tbm 549 rfl rfl)), (htb2 _ (tbm 13 rfl rfl)), hX2.words _ _ x18⟩) hS.2.2 (hml.trans hl.1.symm) (no_handlers X B.named (hts _ List.mem_cons_self) _) (Nat.le_of_ble_eq_true rfl) (Nat.le_of_ble_eq_true rfl) (by decide) (by decide) d_R_share_21 d_R_share_24 d_R_share_25 d_R_share_27 d_R_share_30 hlocks (fun v st t U h0 hw hq hU hW => tqw_at hP h0 hS.1 hw hq hU) T hT X
set_option maxHeartbeats 4000000 in
set_option maxRecDepth 100000 in
theorem t_R_swap_2b (l : Launch) (htr : l.stackTraces = false) (D : va_G) (ad : Nat → Nat) (ca : Nat → ClassId) (P S G : Nat → Nat → Nat) (hP0 : okP P) (hS0 : okS S) (hG0 : okG G) (p1 p2 d : Nat) (hp : p1 < P 0 0) (hq : p2 < P 0 0) (hne : p1 ≠ p2) (hd : d < P 0 1) (hfr : G 0 0 ≤ d) (hno : firstFault P (swG G (d * 6 + p1) (d * 6 + p2) 1) ≠ 0) (sz : Nat) : MetT l y_R_swap w_R_swap { frames := 8, cells := 1, slots := 6, locals := 200 } (tw_P [.ref (ad 0), .int (nI p1), .int (nI p2), .int (nI d)] D (wR ad ca P S G) (tR ca) sz) (tqw "java/lang/IllegalStateException" D (wR ad ca P S G)) 1 6 (va_A (wR ad ca P S G) sz) := by
  refine MetT.ofW (cc := b_R_swap) (maxL := 4) (ret := none) (by decide) rfl ?_
  intro p e s m args below meth c s₁ B hml hv
  obtain ⟨rfl, hsz, hN, hX, hP, hK, hD0⟩ := hv
  have hx := B.exec
  have hb := B.bytes
  have hts := atoms_spec (ws := w_R_swap) B.pre
  have htb : ∀ w ∈ TBG, w.before [.ref (ad 0), .int (nI p1), .int (nI p2), .int (nI d)].toArray s = true := fun w h => hts w (List.mem_cons_of_mem _ h)
  have hown : s.vm.findClass R_R = some m.cls := findClass_of_methodNamed B.named
  have hlocks := B.notSynchronized
  subst hsz
  have hD := hD0.self (sz := s.heap.size)
  have hPs := hP
  generalize hAe : va_A (wR ad ca P S G) s.heap.size = A at hD ⊢
  have hA : ∀ q : Nat, s.heap.size ≤ q → A q := fun q h => by rw [← hAe]; exact Or.inr h
  have hS : va_S A s.heap s.heap [] := va_S.rf
  have hl := lv_entry ([.ref (ad 0), .int (nI p1), .int (nI p2), .int (nI d)]) (n := 4) (Nat.le_of_ble_eq_true rfl)
  rw [lg_entry_eq]
  generalize (lg_sl ([.ref (ad 0), .int (nI p1), .int (nI p2), .int (nI d)]) ++ List.replicate (4 - (lg_sl ([.ref (ad 0), .int (nI p1), .int (nI p2), .int (nI d)])).length) Slot.unset).toArray = ls at hl ⊢
  have hl : lv_has ls 4 [(0, .ref (ad 0)), (1, .int (nI p1)), (2, .int (nI p2)), (3, .int (nI d))] := hl
  refine nr_start hP hS (fun H locs hP hS => ?_)
  obtain ⟨h00, h01, h02, h03, h04, h05, hp1, hp2, hp3, hp4, hp5, hp6⟩ := id hP0
  obtain ⟨g00, g01, g02, g03, g04, g05, g06, hs1, hs2, hs3, hs4, hs5, hs6, hs7⟩ := id hS0
  obtain ⟨k00, k01, hg1, hg2⟩ := id hG0
  have hff := firstFault_le (P := P) (swG G (d * 6 + p1) (d * 6 + p2) 1) h00 h01
  refine lv_aload_n hx hb d_R_swap_0 rfl (lv_at hl 0 rfl) ?_
  refine lv_iload_n hx hb d_R_swap_1 rfl (lv_at hl 1 rfl) ?_
  refine nr_callv (wr := ([] : va_W)) (va_runV (As := [.int (nI p1)]) (rest := []) ⟨hx, hb, hml, hown, hts⟩ (r_R_refuseUnknownPerson l D ad ca P S G hP0 hS0 hG0 p1 (by omega) H.size) ⟨callB_of 1 hts (gTB q_R_refuseUnknownPerson) rfl rfl rfl (htb _ q1) (htb _ q409) hd_R_refuseUnknownPerson ⟨Nat.le_of_ble_eq_true rfl, Nat.le_of_ble_eq_true rfl⟩, (htb _ q411), (htb _ sel_R_refuseUnknownPerson)⟩ ⟨rw_blind, va_recv (hK.sub (tys' := []) [] rfl) hP (ci := 2) (q0 := 15) rfl rfl, rw_pre hN (hP.sub (ws' := (wR ad ca P S G)) [0, 1, 2, 3, 4, 5, 6, 7, 8, 9, 10, 11, 12, 13, 14, 15, 16, 17] rfl) (hK.sub (tys' := (tR ca)) [0, 1, 2, 3, 4, 5, 6, 7, 8, 9, 10, 11, 12, 13, 14] rfl) (hD.sub (ws' := (wR ad ca P S G)) [0, 1, 2, 3, 4, 5, 6, 7, 8, 9, 10, 11, 12, 13, 14, 15, 16, 17] (by decide) rfl)⟩ rfl rfl hl.1 rfl (lv_room (Nat.le_of_ble_eq_true rfl)) d_R_swap_2 ⟨Nat.le_of_ble_eq_true rfl, Nat.le_of_ble_eq_true rfl⟩) hP hD hS hA [0, 1, 2, 3, 4, 5, 6, 7, 8, 9, 10, 11, 12, 13, 14, 15, 16, 17] [] rfl rfl (by decide) (by decide) (fun u_1 H locs hu_1 hP hD hS => ?_)
  replace hP := hP.sub (ws' := wR ad ca P S G) [0, 1, 2, 3, 4, 5, 6, 7, 8, 9, 10, 11, 12, 13, 14, 15, 16, 17] rfl
  replace hD := hD.sub (ws' := wR ad ca P S G) [0, 1, 2, 3, 4, 5, 6, 7, 8, 9, 10, 11, 12, 13, 14, 15, 16, 17] (by decide) rfl
  refine lv_aload_n hx hb d_R_swap_5 rfl (lv_at hl 0 rfl) ?_
  refine lv_iload_n hx hb d_R_swap_6 rfl (lv_at hl 2 rfl) ?_
  refine nr_callv (wr := ([] : va_W)) (va_runV (As := [.int (nI p2)]) (rest := []) ⟨hx, hb, hml, hown, hts⟩ (r_R_refuseUnknownPerson l D ad ca P S G hP0 hS0 hG0 p2 (by omega) H.size) ⟨callB_of 1 hts (gTB q_R_refuseUnknownPerson) rfl rfl rfl (htb _ q1) (htb _ q409) hd_R_refuseUnknownPerson ⟨Nat.le_of_ble_eq_true rfl, Nat.le_of_ble_eq_true rfl⟩, (htb _ q411), (htb _ sel_R_refuseUnknownPerson)⟩ ⟨rw_blind, va_recv (hK.sub (tys' := []) [] rfl) hP (ci := 2) (q0 := 15) rfl rfl, rw_pre hN (hP.sub (ws' := (wR ad ca P S G)) [0, 1, 2, 3, 4, 5, 6, 7, 8, 9, 10, 11, 12, 13, 14, 15, 16, 17] rfl) (hK.sub (tys' := (tR ca)) [0, 1, 2, 3, 4, 5, 6, 7, 8, 9, 10, 11, 12, 13, 14] rfl) (hD.sub (ws' := (wR ad ca P S G)) [0, 1, 2, 3, 4, 5, 6, 7, 8, 9, 10, 11, 12, 13, 14, 15, 16, 17] (by decide) rfl)⟩ rfl rfl hl.1 rfl (lv_room (Nat.le_of_ble_eq_true rfl)) d_R_swap_7 ⟨Nat.le_of_ble_eq_true rfl, Nat.le_of_ble_eq_true rfl⟩) hP hD hS hA [0, 1, 2, 3, 4, 5, 6, 7, 8, 9, 10, 11, 12, 13, 14, 15, 16, 17] [] rfl rfl (by decide) (by decide) (fun u_2 H locs hu_2 hP hD hS => ?_)
  replace hP := hP.sub (ws' := wR ad ca P S G) [0, 1, 2, 3, 4, 5, 6, 7, 8, 9, 10, 11, 12, 13, 14, 15, 16, 17] rfl
  replace hD := hD.sub (ws' := wR ad ca P S G) [0, 1, 2, 3, 4, 5, 6, 7, 8, 9, 10, 11, 12, 13, 14, 15, 16, 17] (by decide) rfl
  refine lv_iload_n hx hb d_R_swap_10 rfl (lv_at hl 1 rfl) ?_
  refine lv_iload_n hx hb d_R_swap_11 rfl (lv_at hl 2 rfl) ?_
  refine nr_callv (wr := ([0, 1, 2, 3, 4, 5, 6, 7, 8, 9, 10, 11, 12, 13, 14, 15, 16, 17] : List Nat).filterMap (fun i => (wR ad ca P S G : va_W)[i]?)) (va_runS (As := [.int (nI p1), .int (nI p2)]) (rest := []) ⟨hx, hb, hml, hown, hts⟩ (r_R_refuseSame l D p1 p2 (by omega) (by omega) (by omega) H.size) ⟨callB_of 2 hts (gTB q_R_refuseSame) rfl rfl rfl (htb _ q1) (htb _ q524) hd_R_refuseSame ⟨Nat.le_of_ble_eq_true rfl, Nat.le_of_ble_eq_true rfl⟩, (htb _ q525)⟩ ⟨rw_blind, rw_pre hN (hP.sub (ws' := []) [] rfl) (hK.sub (tys' := []) [] rfl) (hD.sub (ws' := []) [] (by decide) rfl)⟩ rfl rfl hl.1 rfl (lv_room (Nat.le_of_ble_eq_true rfl)) d_R_swap_12 ⟨Nat.le_of_ble_eq_true rfl, Nat.le_of_ble_eq_true rfl⟩) hP hD hS hA [] [0, 1, 2, 3, 4, 5, 6, 7, 8, 9, 10, 11, 12, 13, 14, 15, 16, 17] rfl rfl (by decide) (by decide) (fun u_3 H locs hu_3 hP hD hS => ?_)
  replace hP := hP.sub (ws' := wR ad ca P S G) [0, 1, 2, 3, 4, 5, 6, 7, 8, 9, 10, 11, 12, 13, 14, 15, 16, 17] rfl
  replace hD := hD.sub (ws' := wR ad ca P S G) [0, 1, 2, 3, 4, 5, 6, 7, 8, 9, 10, 11, 12, 13, 14, 15, 16, 17] (by decide) rfl
  refine lv_aload_n hx hb d_R_swap_15 rfl (lv_at hl 0 rfl) ?_
  refine lv_iload_n hx hb d_R_swap_16 rfl (lv_at hl 3 rfl) ?_
  refine nr_callv (wr := ([] : va_W)) (va_runV (As := [.int (nI d)]) (rest := []) ⟨hx, hb, hml, hown, hts⟩ (r_R_refuseUnknownDay l D ad ca P S G hP0 hS0 hG0 d (by omega) H.size) ⟨callB_of 1 hts (gTB q_R_refuseUnknownDay) rfl rfl rfl (htb _ q1) (htb _ q364) hd_R_refuseUnknownDay ⟨Nat.le_of_ble_eq_true rfl, Nat.le_of_ble_eq_true rfl⟩, (htb _ q366), (htb _ sel_R_refuseUnknownDay)⟩ ⟨rw_blind, va_recv (hK.sub (tys' := []) [] rfl) hP (ci := 2) (q0 := 15) rfl rfl, rw_pre hN (hP.sub (ws' := (wR ad ca P S G)) [0, 1, 2, 3, 4, 5, 6, 7, 8, 9, 10, 11, 12, 13, 14, 15, 16, 17] rfl) (hK.sub (tys' := (tR ca)) [0, 1, 2, 3, 4, 5, 6, 7, 8, 9, 10, 11, 12, 13, 14] rfl) (hD.sub (ws' := (wR ad ca P S G)) [0, 1, 2, 3, 4, 5, 6, 7, 8, 9, 10, 11, 12, 13, 14, 15, 16, 17] (by decide) rfl)⟩ rfl rfl hl.1 rfl (lv_room (Nat.le_of_ble_eq_true rfl)) d_R_swap_17 ⟨Nat.le_of_ble_eq_true rfl, Nat.le_of_ble_eq_true rfl⟩) hP hD hS hA [0, 1, 2, 3, 4, 5, 6, 7, 8, 9, 10, 11, 12, 13, 14, 15, 16, 17] [] rfl rfl (by decide) (by decide) (fun u_4 H locs hu_4 hP hD hS => ?_)
  replace hP := hP.sub (ws' := wR ad ca P S G) [0, 1, 2, 3, 4, 5, 6, 7, 8, 9, 10, 11, 12, 13, 14, 15, 16, 17] rfl
  replace hD := hD.sub (ws' := wR ad ca P S G) [0, 1, 2, 3, 4, 5, 6, 7, 8, 9, 10, 11, 12, 13, 14, 15, 16, 17] (by decide) rfl
  refine lv_aload_n hx hb d_R_swap_20 rfl (lv_at hl 0 rfl) ?_
  refine lv_iload_n hx hb d_R_swap_21 rfl (lv_at hl 3 rfl) ?_
  refine nr_callv (wr := ([] : va_W)) (va_runV (As := [.int (nI d)]) (rest := []) ⟨hx, hb, hml, hown, hts⟩ (r_R_refuseFrozen l D ad ca P S G hP0 hS0 hG0 d (by omega) (by omega) H.size) ⟨callB_of 1 hts (gTB q_R_refuseFrozen) rfl rfl rfl (htb _ q1) (htb _ q422) hd_R_refuseFrozen ⟨Nat.le_of_ble_eq_true rfl, Nat.le_of_ble_eq_true rfl⟩, (htb _ q424), (htb _ sel_R_refuseFrozen)⟩ ⟨rw_blind, va_recv (hK.sub (tys' := []) [] rfl) hP (ci := 2) (q0 := 15) rfl rfl, rw_pre hN (hP.sub (ws' := (wR ad ca P S G)) [0, 1, 2, 3, 4, 5, 6, 7, 8, 9, 10, 11, 12, 13, 14, 15, 16, 17] rfl) (hK.sub (tys' := (tR ca)) [0, 1, 2, 3, 4, 5, 6, 7, 8, 9, 10, 11, 12, 13, 14] rfl) (hD.sub (ws' := (wR ad ca P S G)) [0, 1, 2, 3, 4, 5, 6, 7, 8, 9, 10, 11, 12, 13, 14, 15, 16, 17] (by decide) rfl)⟩ rfl rfl hl.1 rfl (lv_room (Nat.le_of_ble_eq_true rfl)) d_R_swap_22 ⟨Nat.le_of_ble_eq_true rfl, Nat.le_of_ble_eq_true rfl⟩) hP hD hS hA [0, 1, 2, 3, 4, 5, 6, 7, 8, 9, 10, 11, 12, 13, 14, 15, 16, 17] [] rfl rfl (by decide) (by decide) (fun u_5 H locs hu_5 hP hD hS => ?_)
  replace hP := hP.sub (ws' := wR ad ca P S G) [0, 1, 2, 3, 4, 5, 6, 7, 8, 9, 10, 11, 12, 13, 14, 15, 16, 17] rfl
  replace hD := hD.sub (ws' := wR ad ca P S G) [0, 1, 2, 3, 4, 5, 6, 7, 8, 9, 10, 11, 12, 13, 14, 15, 16, 17] (by decide) rfl
  refine lv_aload_n hx hb d_R_swap_25 rfl (lv_at hl 0 rfl) ?_
  refine lv_iload_n hx hb d_R_swap_26 rfl (lv_at hl 1 rfl) ?_
  refine lv_iload_n hx hb d_R_swap_27 rfl (lv_at hl 3 rfl) ?_
  refine nr_calli (va_runS (As := [.int (nI p1), .int (nI d)]) (rest := [.ref (ad 0)]) ⟨hx, hb, hml, hown, hts⟩ (c_R_cell l D p1 d) ⟨callB_of 2 hts (gTB q_R_cell) rfl rfl rfl (htb _ q1) (htb _ q208) hd_R_cell ⟨Nat.le_of_ble_eq_true rfl, Nat.le_of_ble_eq_true rfl⟩, (htb _ q174)⟩ ⟨ro_blind, ro_pre hN (hP.sub (ws' := []) [] rfl) (hK.sub (tys' := []) [] rfl)⟩ rfl rfl hl.1 rfl (lv_room (Nat.le_of_ble_eq_true rfl)) d_R_swap_28 ⟨Nat.le_of_ble_eq_true rfl, Nat.le_of_ble_eq_true rfl⟩) (fun r_6 hr_6 => ?_)
  subst hr_6
  refine lv_iload_n hx hb d_R_swap_31 rfl (lv_at hl 2 rfl) ?_
  refine lv_iload_n hx hb d_R_swap_32 rfl (lv_at hl 3 rfl) ?_
  refine nr_calli (va_runS (As := [.int (nI p2), .int (nI d)]) (rest := [.int (nI (d * 6 + p1)), .ref (ad 0)]) ⟨hx, hb, hml, hown, hts⟩ (c_R_cell l D p2 d) ⟨callB_of 2 hts (gTB q_R_cell) rfl rfl rfl (htb _ q1) (htb _ q208) hd_R_cell ⟨Nat.le_of_ble_eq_true rfl, Nat.le_of_ble_eq_true rfl⟩, (htb _ q174)⟩ ⟨ro_blind, ro_pre hN (hP.sub (ws' := []) [] rfl) (hK.sub (tys' := []) [] rfl)⟩ rfl rfl hl.1 rfl (lv_room (Nat.le_of_ble_eq_true rfl)) d_R_swap_33 ⟨Nat.le_of_ble_eq_true rfl, Nat.le_of_ble_eq_true rfl⟩) (fun r_7 hr_7 => ?_)
  subst hr_7
  refine nr_callv (wr := ([] : va_W)) (va_runV (As := [.int (nI (d * 6 + p1)), .int (nI (d * 6 + p2))]) (rest := []) ⟨hx, hb, hml, hown, hts⟩ (r_R_exchange l D ad ca P S G hP0 hS0 hG0 (d * 6 + p1) (d * 6 + p2) (by omega) (by omega) H.size) ⟨callB_of 2 hts (gTB q_R_exchange) rfl rfl rfl (htb _ q1) (htb _ q528) hd_R_exchange ⟨Nat.le_of_ble_eq_true rfl, Nat.le_of_ble_eq_true rfl⟩, (htb _ q530), (htb _ sel_R_exchange)⟩ ⟨rw_blind, va_recv (hK.sub (tys' := []) [] rfl) hP (ci := 2) (q0 := 15) rfl rfl, rw_pre hN (hP.sub (ws' := (wR ad ca P S G)) [0, 1, 2, 3, 4, 5, 6, 7, 8, 9, 10, 11, 12, 13, 14, 15, 16, 17] rfl) (hK.sub (tys' := (tR ca)) [0, 1, 2, 3, 4, 5, 6, 7, 8, 9, 10, 11, 12, 13, 14] rfl) (hD.sub (ws' := (wR ad ca P S G)) [0, 1, 2, 3, 4, 5, 6, 7, 8, 9, 10, 11, 12, 13, 14, 15, 16, 17] (by decide) rfl)⟩ rfl rfl hl.1 rfl (lv_room (Nat.le_of_ble_eq_true rfl)) d_R_swap_36 ⟨Nat.le_of_ble_eq_true rfl, Nat.le_of_ble_eq_true rfl⟩) hP hD hS hA [0, 1, 2, 3, 4, 5, 6, 7, 8, 9, 10, 11, 12, 13, 14, 15, 16, 17] [] rfl rfl (by decide) (by decide) (fun u_8 H locs hu_8 hP hD hS => ?_)
  replace hP := hP.sub (ws' := wR ad ca P S (swG G (d * 6 + p1) (d * 6 + p2))) [0, 1, 2, 3, 4, 5, 6, 7, 8, 9, 10, 11, 12, 13, 14, 15, 16, 17] rfl
  replace hD := hD.sub (ws' := wR ad ca P S (swG G (d * 6 + p1) (d * 6 + p2))) [0, 1, 2, 3, 4, 5, 6, 7, 8, 9, 10, 11, 12, 13, 14, 15, 16, 17] (by decide) rfl
  have hG1 : okG (swG G (d * 6 + p1) (d * 6 + p2)) := okg_sw hG0
  refine lv_aload_n hx hb d_R_swap_39 rfl (lv_at hl 0 rfl) ?_
  refine va_get (D := D) (ci := 2) (v := .ref (ad 1)) (C := R_R) (T := F_R) (N := 6) hx hb htb u_R hown hK hP 15 rfl rfl 0 (by decide) (htb _ q134) (fun _ h9 => h9) rfl d_R_swap_40 ?_
  refine lv_aload_n hx hb d_R_swap_43 rfl (lv_at hl 0 rfl) ?_
  refine va_get (D := D) (ci := 2) (v := .ref (ad 16)) (C := R_R) (T := F_R) (N := 6) hx hb htb u_R hown hK hP 15 rfl rfl 2 (by decide) (htb _ q136) (fun _ h9 => h9) rfl d_R_swap_44 ?_
  refine nr_calli (va_runVN (As := [.ref (ad 16)]) (rest := []) ⟨hx, hb, hml, hown, hts⟩ (c_P_firstFault l D ad ca P (ad 16) (ca 13) ((swG G (d * 6 + p1) (d * 6 + p2)) 1) hP0 hG1.2.2.1 ) ⟨va_cnB 1 hts (gTB q_P_firstFault) rfl rfl rfl (hN.nw q157 rfl) (htb _ q2) hd_P_firstFault ⟨Nat.le_of_ble_eq_true rfl, Nat.le_of_ble_eq_true rfl⟩, (htb _ q159), (htb _ sel_P_firstFault)⟩ ⟨ro_blind, va_recv (hK.sub (tys' := []) [] rfl) hP (ci := 0) (q0 := 0) rfl rfl, ro_pre hN (hP.sub (ws' := (wPS ad ca P (ad 16) (ca 13) ((swG G (d * 6 + p1) (d * 6 + p2)) 1))) [0, 1, 2, 3, 4, 5, 6, 16] rfl) (hK.sub (tys' := (tPS ca (ca 13))) [0, 1, 2, 3, 4, 5, 13] rfl)⟩ rfl rfl hl.1 rfl (lv_room (Nat.le_of_ble_eq_true rfl)) d_R_swap_47 ⟨Nat.le_of_ble_eq_true rfl, Nat.le_of_ble_eq_true rfl⟩) (fun r_9 hr_9 => ?_)
  subst hr_9
  refine nr_if_eq (tgt := 77) hx hb (by omega) d_R_swap_50 (by decide) (fun c_50 => by exfalso; omega) (fun c_50 => ?_)
  refine lv_aload_n hx hb d_R_swap_53 rfl (lv_at hl 0 rfl) ?_
  refine lv_iload_n hx hb d_R_swap_54 rfl (lv_at hl 1 rfl) ?_
  refine lv_iload_n hx hb d_R_swap_55 rfl (lv_at hl 3 rfl) ?_
  refine nr_calli (va_runS (As := [.int (nI p1), .int (nI d)]) (rest := [.ref (ad 0)]) ⟨hx, hb, hml, hown, hts⟩ (c_R_cell l D p1 d) ⟨callB_of 2 hts (gTB q_R_cell) rfl rfl rfl (htb _ q1) (htb _ q208) hd_R_cell ⟨Nat.le_of_ble_eq_true rfl, Nat.le_of_ble_eq_true rfl⟩, (htb _ q174)⟩ ⟨ro_blind, ro_pre hN (hP.sub (ws' := []) [] rfl) (hK.sub (tys' := []) [] rfl)⟩ rfl rfl hl.1 rfl (lv_room (Nat.le_of_ble_eq_true rfl)) d_R_swap_56 ⟨Nat.le_of_ble_eq_true rfl, Nat.le_of_ble_eq_true rfl⟩) (fun r_10 hr_10 => ?_)
  subst hr_10
  refine lv_iload_n hx hb d_R_swap_59 rfl (lv_at hl 2 rfl) ?_
  refine lv_iload_n hx hb d_R_swap_60 rfl (lv_at hl 3 rfl) ?_
  refine nr_calli (va_runS (As := [.int (nI p2), .int (nI d)]) (rest := [.int (nI (d * 6 + p1)), .ref (ad 0)]) ⟨hx, hb, hml, hown, hts⟩ (c_R_cell l D p2 d) ⟨callB_of 2 hts (gTB q_R_cell) rfl rfl rfl (htb _ q1) (htb _ q208) hd_R_cell ⟨Nat.le_of_ble_eq_true rfl, Nat.le_of_ble_eq_true rfl⟩, (htb _ q174)⟩ ⟨ro_blind, ro_pre hN (hP.sub (ws' := []) [] rfl) (hK.sub (tys' := []) [] rfl)⟩ rfl rfl hl.1 rfl (lv_room (Nat.le_of_ble_eq_true rfl)) d_R_swap_61 ⟨Nat.le_of_ble_eq_true rfl, Nat.le_of_ble_eq_true rfl⟩) (fun r_11 hr_11 => ?_)
  subst hr_11
  refine nr_callv (wr := ([] : va_W)) (va_runV (As := [.int (nI (d * 6 + p1)), .int (nI (d * 6 + p2))]) (rest := []) ⟨hx, hb, hml, hown, hts⟩ (r_R_exchange l D ad ca P S (swG G (d * 6 + p1) (d * 6 + p2)) hP0 hS0 hG1 (d * 6 + p1) (d * 6 + p2) (by omega) (by omega) H.size) ⟨callB_of 2 hts (gTB q_R_exchange) rfl rfl rfl (htb _ q1) (htb _ q528) hd_R_exchange ⟨Nat.le_of_ble_eq_true rfl, Nat.le_of_ble_eq_true rfl⟩, (htb _ q530), (htb _ sel_R_exchange)⟩ ⟨rw_blind, va_recv (hK.sub (tys' := []) [] rfl) hP (ci := 2) (q0 := 15) rfl rfl, rw_pre hN (hP.sub (ws' := (wR ad ca P S (swG G (d * 6 + p1) (d * 6 + p2)))) [0, 1, 2, 3, 4, 5, 6, 7, 8, 9, 10, 11, 12, 13, 14, 15, 16, 17] rfl) (hK.sub (tys' := (tR ca)) [0, 1, 2, 3, 4, 5, 6, 7, 8, 9, 10, 11, 12, 13, 14] rfl) (hD.sub (ws' := (wR ad ca P S (swG G (d * 6 + p1) (d * 6 + p2)))) [0, 1, 2, 3, 4, 5, 6, 7, 8, 9, 10, 11, 12, 13, 14, 15, 16, 17] (by decide) rfl)⟩ rfl rfl hl.1 rfl (lv_room (Nat.le_of_ble_eq_true rfl)) d_R_swap_64 ⟨Nat.le_of_ble_eq_true rfl, Nat.le_of_ble_eq_true rfl⟩) hP hD hS hA [0, 1, 2, 3, 4, 5, 6, 7, 8, 9, 10, 11, 12, 13, 14, 15, 16, 17] [] rfl rfl (by decide) (by decide) (fun u_12 H locs hu_12 hP hD hS => ?_)
  replace hP := hP.sub (ws' := wR ad ca P S (swG (swG G (d * 6 + p1) (d * 6 + p2)) (d * 6 + p1) (d * 6 + p2))) [0, 1, 2, 3, 4, 5, 6, 7, 8, 9, 10, 11, 12, 13, 14, 15, 16, 17] rfl
  replace hD := hD.sub (ws' := wR ad ca P S (swG (swG G (d * 6 + p1) (d * 6 + p2)) (d * 6 + p1) (d * 6 + p2))) [0, 1, 2, 3, 4, 5, 6, 7, 8, 9, 10, 11, 12, 13, 14, 15, 16, 17] (by decide) rfl
  have hgg : swG (swG G (d * 6 + p1) (d * 6 + p2)) (d * 6 + p1) (d * 6 + p2) = G := sw_sw (by omega)
  rw [hgg] at hP
  intro T hT X
  exact nr_throwAnew (names := ["java/lang/RuntimeException", "java/lang/Exception"]) hx hb htr hown (by decide +kernel) (by decide +kernel) (fun U hU hW => by
          have htb2 := tbg_warm (a' := [.ref (ad 0), .int (nI p1), .int (nI p2), .int (nI d)].toArray) htb hW
          have hX2 := tx_keep hX hPs (by rw [hAe]; exact hS) U hU hW
          exact ⟨oa_ISE htb2 (hX2.words _), (htb2 _ (tbm 426 rfl rfl)), (htb2 _ (tbm 427 rfl rfl)), (htb2 _ (tbm 11 rfl rfl)), hX2.words _ _ x17⟩) hS.2.2 (hml.trans hl.1.symm) (no_handlers X B.named (hts _ List.mem_cons_self) _) (Nat.le_of_ble_eq_true rfl) (Nat.le_of_ble_eq_true rfl) (by decide) (by decide) d_R_swap_67 d_R_swap_70 d_R_swap_71 d_R_swap_73 d_R_swap_76 hlocks (fun v st t U h0 hw hq hU hW => tqw_at hP h0 hS.1 hw hq hU) T hT X

def pri (G : Nat → Nat → Nat) (d : Nat) : Nat → Nat → Nat → Nat
  | 0, _, acc => acc
  | k + 1, p, acc => if G 1 (d * 6 + p) = G 2 (d * 6 + p) then pri G d k (p + 1) acc else pri G d k (p + 1) (acc + 1)
def pro (P G : Nat → Nat → Nat) : Nat → Nat → Nat → Nat
  | 0, _, acc => acc
  | k + 1, d, acc => pro P G k (d + 1) (pri G d (P 0 0) 0 acc)
def pubR (P G : Nat → Nat → Nat) : Nat := pro P G (P 0 1) 0 0
set_option maxHeartbeats 4000000 in
set_option maxRecDepth 100000 in
theorem r_R_solved (l : Launch) (D : va_G) (ad : Nat → Nat) (ca : Nat → ClassId) (P S G : Nat → Nat → Nat) (hP0 : okP P) (hS0 : okS S) (hG0 : okG G) (x : Nat) (hxs : x ≤ 2) (sz : Nat) : Met l y_R_solved w_R_solved { frames := 1, cells := 0, slots := 0, locals := 22 } (rw_P [.ref (ad 0), .int (nI x)] D (wR ad ca P S G) (tR ca) sz) (rw_Qi (fun (r : Int32) (u : Unit) => r = nI (if x = 0 then S 0 6 else if x = 1 then S 0 2 else S 0 3)) D (wR ad ca P S G) (fun u => wR ad ca P S G) sz) 0 0 (va_A (wR ad ca P S G) sz) := by
  refine Met.ofW (cc := b_R_solved) (maxL := 2) (ret := (some .int)) (by decide) rfl ?_
  intro p e s m args below meth c s₁ B hml hv
  obtain ⟨rfl, hsz, hN, hP, hK, hD0⟩ := hv
  have hx := B.exec
  have hb := B.bytes
  have hr := B.returns
  have hts := atoms_spec (ws := w_R_solved) B.pre
  have htb : ∀ w ∈ TBG, w.before [.ref (ad 0), .int (nI x)].toArray s = true := fun w h => hts w (List.mem_cons_of_mem _ h)
  have hown : s.vm.findClass R_R = some m.cls := findClass_of_methodNamed B.named
  have hlocks := B.notSynchronized
  subst hsz
  have hD := hD0.self (sz := s.heap.size)
  unfold rw_Qi
  generalize hAe : va_A (wR ad ca P S G) s.heap.size = A at hD ⊢
  have hA : ∀ q : Nat, s.heap.size ≤ q → A q := fun q h => by rw [← hAe]; exact Or.inr h
  have hS : va_S A s.heap s.heap [] := va_S.rf
  have hl := lv_entry ([.ref (ad 0), .int (nI x)]) (n := 2) (Nat.le_of_ble_eq_true rfl)
  rw [lg_entry_eq]
  generalize (lg_sl ([.ref (ad 0), .int (nI x)]) ++ List.replicate (2 - (lg_sl ([.ref (ad 0), .int (nI x)])).length) Slot.unset).toArray = ls at hl ⊢
  have hl : lv_has ls 2 [(0, .ref (ad 0)), (1, .int (nI x))] := hl
  refine nr_start hP hS (fun H locs hP hS => ?_)
  obtain ⟨h00, h01, h02, h03, h04, h05, hp1, hp2, hp3, hp4, hp5, hp6⟩ := id hP0
  obtain ⟨g00, g01, g02, g03, g04, g05, g06, hs1, hs2, hs3, hs4, hs5, hs6, hs7⟩ := id hS0
  obtain ⟨k00, k01, hg1, hg2⟩ := id hG0
  refine lv_iload_n hx hb d_R_solved_0 rfl (lv_at hl 1 rfl) ?_
  refine nr_iconst hx hb 0 d_R_solved_1 (by decide) ?_
  refine nr_iconst hx hb 2 d_R_solved_2 (by decide) ?_
  refine nr_callv (wr := ([0, 1, 2, 3, 4, 5, 6, 7, 8, 9, 10, 11, 12, 13, 14, 15, 16, 17] : List Nat).filterMap (fun i => (wR ad ca P S G : va_W)[i]?)) (va_runS (As := [.int (nI x), .int (nI 0), .int (nI 2)]) (rest := []) ⟨hx, hb, hml, hown, hts⟩ (r_R_refuseUnknown l D x 0 2 (by omega) (by omega) (by omega) H.size) ⟨callB_of 3 hts (gTB q_R_refuseUnknown) rfl rfl rfl (htb _ q1) (htb _ q368) hd_R_refuseUnknown ⟨Nat.le_of_ble_eq_true rfl, Nat.le_of_ble_eq_true rfl⟩, (htb _ q369)⟩ ⟨rw_blind, rw_pre hN (hP.sub (ws' := []) [] rfl) (hK.sub (tys' := []) [] rfl) (hD.sub (ws' := []) [] (by decide) rfl)⟩ rfl rfl hl.1 rfl (lv_room (Nat.le_of_ble_eq_true rfl)) d_R_solved_3 ⟨Nat.le_of_ble_eq_true rfl, Nat.le_of_ble_eq_true rfl⟩) hP hD hS hA [] [0, 1, 2, 3, 4, 5, 6, 7, 8, 9, 10, 11, 12, 13, 14, 15, 16, 17] rfl rfl (by decide) (by decide) (fun u_1 H locs hu_1 hP hD hS => ?_)
  replace hP := hP.sub (ws' := wR ad ca P S G) [0, 1, 2, 3, 4, 5, 6, 7, 8, 9, 10, 11, 12, 13, 14, 15, 16, 17] rfl
  replace hD := hD.sub (ws' := wR ad ca P S G) [0, 1, 2, 3, 4, 5, 6, 7, 8, 9, 10, 11, 12, 13, 14, 15, 16, 17] (by decide) rfl
  refine lv_iload_n hx hb d_R_solved_6 rfl (lv_at hl 1 rfl) ?_
  refine nr_if_ne (tgt := 26) hx hb (by omega) d_R_solved_7 (by decide) (fun c_7 => ?_) (fun c_7 => ?_)
  · refine lv_iload_n hx hb d_R_solved_26 rfl (lv_at hl 1 rfl) ?_
    refine nr_iconst hx hb 1 d_R_solved_27 (by decide) ?_
    refine nr_icmp_ne (tgt := 41) hx hb (by omega) (by omega) d_R_solved_28 (by decide) (fun c_28 => ?_) (fun c_28 => ?_)
    · refine lv_aload_n hx hb d_R_solved_41 rfl (lv_at hl 0 rfl) ?_
      refine va_get (D := D) (ci := 2) (v := .ref (ad 2)) (C := R_R) (T := F_R) (N := 6) hx hb htb u_R hown hK hP 15 rfl rfl 1 (by decide) (htb _ q135) (fun _ h9 => h9) rfl d_R_solved_42 ?_
      refine va_getN (D := D) (ci := 1) (v := .int (nI (S 0 3))) (C := R_S) (T := F_S) (N := 15) hx hb htb u_S hown hK hP 7 rfl rfl 11 (by decide) (hN.at q97 rfl rfl) (fun _ h9 => h9) rfl d_R_solved_45 ?_
      exact W.iret (v := (nI (S 0 3))) hx hb hr (fun t ht hW => ⟨⟨_, (), rfl, by rw [if_neg c_7, if_neg c_28], by rw [ht]; exact hP, hD⟩, hS.F ht⟩) hS.2.2 d_R_solved_48
    · refine lv_aload_n hx hb d_R_solved_31 rfl (lv_at hl 0 rfl) ?_
      refine va_get (D := D) (ci := 2) (v := .ref (ad 2)) (C := R_R) (T := F_R) (N := 6) hx hb htb u_R hown hK hP 15 rfl rfl 1 (by decide) (htb _ q135) (fun _ h9 => h9) rfl d_R_solved_32 ?_
      refine va_getN (D := D) (ci := 1) (v := .int (nI (S 0 2))) (C := R_S) (T := F_S) (N := 15) hx hb htb u_S hown hK hP 7 rfl rfl 10 (by decide) (hN.at q95 rfl rfl) (fun _ h9 => h9) rfl d_R_solved_35 ?_
      refine lv_goto (tgt := 48) hx hb d_R_solved_38 (by decide) ?_
      exact W.iret (v := (nI (S 0 2))) hx hb hr (fun t ht hW => ⟨⟨_, (), rfl, by rw [if_neg c_7, if_pos c_28], by rw [ht]; exact hP, hD⟩, hS.F ht⟩) hS.2.2 d_R_solved_48
  · refine lv_aload_n hx hb d_R_solved_10 rfl (lv_at hl 0 rfl) ?_
    refine va_get (D := D) (ci := 2) (v := .ref (ad 2)) (C := R_R) (T := F_R) (N := 6) hx hb htb u_R hown hK hP 15 rfl rfl 1 (by decide) (htb _ q135) (fun _ h9 => h9) rfl d_R_solved_11 ?_
    refine va_getN (D := D) (ci := 1) (v := .int (nI (S 0 6))) (C := R_S) (T := F_S) (N := 15) hx hb htb u_S hown hK hP 7 rfl rfl 14 (by decide) (hN.at q102 rfl rfl) (fun _ h9 => h9) rfl d_R_solved_14 ?_
    refine nr_if_eq (tgt := 24) hx hb (by omega) d_R_solved_17 (by decide) (fun c_17 => ?_) (fun c_17 => ?_)
    · refine nr_iconst hx hb 0 d_R_solved_24 (by decide) ?_
      exact W.iret (v := (nI 0)) hx hb hr (fun t ht hW => ⟨⟨_, (), rfl, by rw [if_pos c_7, c_17], by rw [ht]; exact hP, hD⟩, hS.F ht⟩) hS.2.2 d_R_solved_25
    · refine nr_iconst hx hb 1 d_R_solved_20 (by decide) ?_
      refine lv_goto (tgt := 25) hx hb d_R_solved_21 (by decide) ?_
      exact W.iret (v := (nI 1)) hx hb hr (fun t ht hW => ⟨⟨_, (), rfl, by rw [if_pos c_7, show S 0 6 = 1 by omega], by rw [ht]; exact hP, hD⟩, hS.F ht⟩) hS.2.2 d_R_solved_25
set_option maxHeartbeats 4000000 in
set_option maxRecDepth 100000 in
theorem r_R_count (l : Launch) (D : va_G) (ad : Nat → Nat) (ca : Nat → ClassId) (P S G : Nat → Nat → Nat) (hP0 : okP P) (hS0 : okS S) (hG0 : okG G) (x : Nat) (hxs : x ≤ 4) (sz : Nat) : Met l y_R_count w_R_count { frames := 1, cells := 0, slots := 0, locals := 22 } (rw_P [.ref (ad 0), .int (nI x)] D (wR ad ca P S G) (tR ca) sz) (rw_Qi (fun (r : Int32) (u : Unit) => r = nI (if x = 0 then P 0 0 else if x = 1 then P 0 1 else if x = 2 then P 0 5 else if x = 3 then G 0 0 else G 0 1)) D (wR ad ca P S G) (fun u => wR ad ca P S G) sz) 0 0 (va_A (wR ad ca P S G) sz) := by
  refine Met.ofW (cc := b_R_count) (maxL := 2) (ret := (some .int)) (by decide) rfl ?_
  intro p e s m args below meth c s₁ B hml hv
  obtain ⟨rfl, hsz, hN, hP, hK, hD0⟩ := hv
  have hx := B.exec
  have hb := B.bytes
  have hr := B.returns
  have hts := atoms_spec (ws := w_R_count) B.pre
  have htb : ∀ w ∈ TBG, w.before [.ref (ad 0), .int (nI x)].toArray s = true := fun w h => hts w (List.mem_cons_of_mem _ h)
  have hown : s.vm.findClass R_R = some m.cls := findClass_of_methodNamed B.named
  have hlocks := B.notSynchronized
  subst hsz
  have hD := hD0.self (sz := s.heap.size)
  unfold rw_Qi
  generalize hAe : va_A (wR ad ca P S G) s.heap.size = A at hD ⊢
  have hA : ∀ q : Nat, s.heap.size ≤ q → A q := fun q h => by rw [← hAe]; exact Or.inr h
  have hS : va_S A s.heap s.heap [] := va_S.rf
  have hl := lv_entry ([.ref (ad 0), .int (nI x)]) (n := 2) (Nat.le_of_ble_eq_true rfl)
  rw [lg_entry_eq]
  generalize (lg_sl ([.ref (ad 0), .int (nI x)]) ++ List.replicate (2 - (lg_sl ([.ref (ad 0), .int (nI x)])).length) Slot.unset).toArray = ls at hl ⊢
  have hl : lv_has ls 2 [(0, .ref (ad 0)), (1, .int (nI x))] := hl
  refine nr_start hP hS (fun H locs hP hS => ?_)
  obtain ⟨h00, h01, h02, h03, h04, h05, hp1, hp2, hp3, hp4, hp5, hp6⟩ := id hP0
  obtain ⟨g00, g01, g02, g03, g04, g05, g06, hs1, hs2, hs3, hs4, hs5, hs6, hs7⟩ := id hS0
  obtain ⟨k00, k01, hg1, hg2⟩ := id hG0
  refine lv_iload_n hx hb d_R_count_0 rfl (lv_at hl 1 rfl) ?_
  refine nr_iconst hx hb 0 d_R_count_1 (by decide) ?_
  refine nr_iconst hx hb 4 d_R_count_2 (by decide) ?_
  refine nr_callv (wr := ([0, 1, 2, 3, 4, 5, 6, 7, 8, 9, 10, 11, 12, 13, 14, 15, 16, 17] : List Nat).filterMap (fun i => (wR ad ca P S G : va_W)[i]?)) (va_runS (As := [.int (nI x), .int (nI 0), .int (nI 4)]) (rest := []) ⟨hx, hb, hml, hown, hts⟩ (r_R_refuseUnknown l D x 0 4 (by omega) (by omega) (by omega) H.size) ⟨callB_of 3 hts (gTB q_R_refuseUnknown) rfl rfl rfl (htb _ q1) (htb _ q368) hd_R_refuseUnknown ⟨Nat.le_of_ble_eq_true rfl, Nat.le_of_ble_eq_true rfl⟩, (htb _ q369)⟩ ⟨rw_blind, rw_pre hN (hP.sub (ws' := []) [] rfl) (hK.sub (tys' := []) [] rfl) (hD.sub (ws' := []) [] (by decide) rfl)⟩ rfl rfl hl.1 rfl (lv_room (Nat.le_of_ble_eq_true rfl)) d_R_count_3 ⟨Nat.le_of_ble_eq_true rfl, Nat.le_of_ble_eq_true rfl⟩) hP hD hS hA [] [0, 1, 2, 3, 4, 5, 6, 7, 8, 9, 10, 11, 12, 13, 14, 15, 16, 17] rfl rfl (by decide) (by decide) (fun u_1 H locs hu_1 hP hD hS => ?_)
  replace hP := hP.sub (ws' := wR ad ca P S G) [0, 1, 2, 3, 4, 5, 6, 7, 8, 9, 10, 11, 12, 13, 14, 15, 16, 17] rfl
  replace hD := hD.sub (ws' := wR ad ca P S G) [0, 1, 2, 3, 4, 5, 6, 7, 8, 9, 10, 11, 12, 13, 14, 15, 16, 17] (by decide) rfl
  refine lv_iload_n hx hb d_R_count_6 rfl (lv_at hl 1 rfl) ?_
  rcases (show x = 0 ∨ x = 1 ∨ x = 2 ∨ x = 3 ∨ x = 4 by omega) with rfl | rfl | rfl | rfl | rfl
  · refine lv_tableIn (off := 29) (tgt := 36) hx hb d_R_count_7 (by decide) (by decide) rfl (by decide) ?_
    refine lv_aload_n hx hb d_R_count_36 rfl (lv_at hl 0 rfl) ?_
    refine va_get (D := D) (ci := 2) (v := .ref (ad 1)) (C := R_R) (T := F_R) (N := 6) hx hb htb u_R hown hK hP 15 rfl rfl 0 (by decide) (htb _ q134) (fun _ h9 => h9) rfl d_R_count_37 ?_
    refine va_getN (D := D) (ci := 0) (v := .int (nI (P 0 0))) (C := R_P) (T := F_P) (N := 12) hx hb htb u_P hown hK hP 0 rfl rfl 0 (by decide) (hN.at q30 rfl rfl) (fun _ h9 => h9) rfl d_R_count_40 ?_
    exact W.iret (v := (nI (P 0 0))) hx hb hr (fun t ht hW => ⟨⟨_, (), rfl, rfl, by rw [ht]; exact hP, hD⟩, hS.F ht⟩) hS.2.2 d_R_count_43
  · refine lv_tableIn (off := 37) (tgt := 44) hx hb d_R_count_7 (by decide) (by decide) rfl (by decide) ?_
    refine lv_aload_n hx hb d_R_count_44 rfl (lv_at hl 0 rfl) ?_
    refine va_get (D := D) (ci := 2) (v := .ref (ad 1)) (C := R_R) (T := F_R) (N := 6) hx hb htb u_R hown hK hP 15 rfl rfl 0 (by decide) (htb _ q134) (fun _ h9 => h9) rfl d_R_count_45 ?_
    refine va_getN (D := D) (ci := 0) (v := .int (nI (P 0 1))) (C := R_P) (T := F_P) (N := 12) hx hb htb u_P hown hK hP 0 rfl rfl 1 (by decide) (hN.at q33 rfl rfl) (fun _ h9 => h9) rfl d_R_count_48 ?_
    exact W.iret (v := (nI (P 0 1))) hx hb hr (fun t ht hW => ⟨⟨_, (), rfl, rfl, by rw [ht]; exact hP, hD⟩, hS.F ht⟩) hS.2.2 d_R_count_51
  · refine lv_tableIn (off := 45) (tgt := 52) hx hb d_R_count_7 (by decide) (by decide) rfl (by decide) ?_
    refine lv_aload_n hx hb d_R_count_52 rfl (lv_at hl 0 rfl) ?_
    refine va_get (D := D) (ci := 2) (v := .ref (ad 1)) (C := R_R) (T := F_R) (N := 6) hx hb htb u_R hown hK hP 15 rfl rfl 0 (by decide) (htb _ q134) (fun _ h9 => h9) rfl d_R_count_53 ?_
    refine va_getN (D := D) (ci := 0) (v := .int (nI (P 0 5))) (C := R_P) (T := F_P) (N := 12) hx hb htb u_P hown hK hP 0 rfl rfl 5 (by decide) (hN.at q40 rfl rfl) (fun _ h9 => h9) rfl d_R_count_56 ?_
    exact W.iret (v := (nI (P 0 5))) hx hb hr (fun t ht hW => ⟨⟨_, (), rfl, rfl, by rw [ht]; exact hP, hD⟩, hS.F ht⟩) hS.2.2 d_R_count_59
  · refine lv_tableIn (off := 53) (tgt := 60) hx hb d_R_count_7 (by decide) (by decide) rfl (by decide) ?_
    refine lv_aload_n hx hb d_R_count_60 rfl (lv_at hl 0 rfl) ?_
    refine va_get (D := D) (ci := 2) (v := .int (nI (G 0 0))) (C := R_R) (T := F_R) (N := 6) hx hb htb u_R hown hK hP 15 rfl rfl 4 (by decide) (htb _ q138) (fun _ h9 => h9) rfl d_R_count_61 ?_
    exact W.iret (v := (nI (G 0 0))) hx hb hr (fun t ht hW => ⟨⟨_, (), rfl, rfl, by rw [ht]; exact hP, hD⟩, hS.F ht⟩) hS.2.2 d_R_count_64
  · refine lv_tableOut (tgt := 65) hx hb d_R_count_7 (by decide) (by decide) ?_
    refine lv_aload_n hx hb d_R_count_65 rfl (lv_at hl 0 rfl) ?_
    refine va_get (D := D) (ci := 2) (v := .int (nI (G 0 1))) (C := R_R) (T := F_R) (N := 6) hx hb htb u_R hown hK hP 15 rfl rfl 5 (by decide) (htb _ q139) (fun _ h9 => h9) rfl d_R_count_66 ?_
    exact W.iret (v := (nI (G 0 1))) hx hb hr (fun t ht hW => ⟨⟨_, (), rfl, rfl, by rw [ht]; exact hP, hD⟩, hS.F ht⟩) hS.2.2 d_R_count_69
set_option maxHeartbeats 4000000 in
set_option maxRecDepth 100000 in
theorem r_R_publish (l : Launch) (D : va_G) (ad : Nat → Nat) (ca : Nat → ClassId) (P S G : Nat → Nat → Nat) (hP0 : okP P) (hS0 : okS S) (hG0 : okG G) (sz : Nat) : Met l y_R_publish w_R_publish { frames := 1, cells := 0, slots := 0, locals := 21 } (rw_P [.ref (ad 0)] D (wR ad ca P S G) (tR ca) sz) (rw_Qi (fun (r : Int32) (u : Unit) => r = nI (pubR P G)) D (wR ad ca P S G) (fun u => wR ad ca P S (up2 (upr G 2 (G 1)) 0 1 (G 0 1 + 1))) sz) 0 0 (va_A (wR ad ca P S G) sz) := by
  refine Met.ofW (cc := b_R_publish) (maxL := 5) (ret := (some .int)) (by decide) rfl ?_
  intro p e s m args below meth c s₁ B hml hv
  obtain ⟨rfl, hsz, hN, hP, hK, hD0⟩ := hv
  have hx := B.exec
  have hb := B.bytes
  have hr := B.returns
  have hts := atoms_spec (ws := w_R_publish) B.pre
  have htb : ∀ w ∈ TBG, w.before [.ref (ad 0)].toArray s = true := fun w h => hts w (List.mem_cons_of_mem _ h)
  have hown : s.vm.findClass R_R = some m.cls := findClass_of_methodNamed B.named
  have hlocks := B.notSynchronized
  subst hsz
  have hD := hD0.self (sz := s.heap.size)
  unfold rw_Qi
  generalize hAe : va_A (wR ad ca P S G) s.heap.size = A at hD ⊢
  have hA : ∀ q : Nat, s.heap.size ≤ q → A q := fun q h => by rw [← hAe]; exact Or.inr h
  have hS : va_S A s.heap s.heap [] := va_S.rf
  have hl := lv_entry ([.ref (ad 0)]) (n := 5) (Nat.le_of_ble_eq_true rfl)
  rw [lg_entry_eq]
  generalize (lg_sl ([.ref (ad 0)]) ++ List.replicate (5 - (lg_sl ([.ref (ad 0)])).length) Slot.unset).toArray = ls at hl ⊢
  have hl : lv_has ls 5 [(0, .ref (ad 0))] := hl
  refine nr_start hP hS (fun H locs hP hS => ?_)
  obtain ⟨h00, h01, h02, h03, h04, h05, hp1, hp2, hp3, hp4, hp5, hp6⟩ := id hP0
  obtain ⟨g00, g01, g02, g03, g04, g05, g06, hs1, hs2, hs3, hs4, hs5, hs6, hs7⟩ := id hS0
  obtain ⟨k00, k01, hg1, hg2⟩ := id hG0
  refine nr_iconst hx hb 0 d_R_publish_0 (by decide) ?_
  refine lv_istore_n (lv' := [(1, .int (nI 0)), (0, .ref (ad 0))]) hx hb d_R_publish_1 rfl hl (by decide) rfl (fun ls hl => ?_)
  refine nr_iconst hx hb 0 d_R_publish_2 (by decide) ?_
  refine lv_istore_n (lv' := [(2, .int (nI 0)), (1, .int (nI 0)), (0, .ref (ad 0))]) hx hb d_R_publish_3 rfl hl (by decide) rfl (fun ls hl => ?_)
  replace hl : ∃ k d acc : Nat, (d + k = P 0 1) ∧ (pro P G k d acc = pubR P G) ∧ lv_has ls 5 [(0, .ref (ad 0)), (1, .int (nI acc)), (2, .int (nI d))] := ⟨P 0 1, 0, 0, Nat.zero_add _, rfl, lv_sub hl [2, 1, 0] rfl⟩
  obtain ⟨k, d, acc, hk, hres, hl⟩ := hl
  induction k generalizing d acc ls with
  | zero =>
    refine lv_iload_n hx hb d_R_publish_4 rfl (lv_at hl 2 rfl) ?_
    refine lv_aload_n hx hb d_R_publish_5 rfl (lv_at hl 0 rfl) ?_
    refine va_get (D := D) (ci := 2) (v := .ref (ad 1)) (C := R_R) (T := F_R) (N := 6) hx hb htb u_R hown hK hP 15 rfl rfl 0 (by decide) (htb _ q134) (fun _ h9 => h9) rfl d_R_publish_6 ?_
    refine va_getN (D := D) (ci := 0) (v := .int (nI (P 0 1))) (C := R_P) (T := F_P) (N := 12) hx hb htb u_P hown hK hP 0 rfl rfl 1 (by decide) (hN.at q33 rfl rfl) (fun _ h9 => h9) rfl d_R_publish_9 ?_
    refine nr_icmp_ge (tgt := 67) hx hb (by omega) (by omega) d_R_publish_12 (by decide) (fun c_12 => ?_) (fun c_12 => by exfalso; omega)
    refine lv_aload_n hx hb d_R_publish_67 rfl (lv_at hl 0 rfl) ?_
    refine va_get (D := D) (ci := 2) (v := .ref (ad 16)) (C := R_R) (T := F_R) (N := 6) hx hb htb u_R hown hK hP 15 rfl rfl 2 (by decide) (htb _ q136) (fun _ h9 => h9) rfl d_R_publish_68 ?_
    refine nr_iconst hx hb 0 d_R_publish_71 (by decide) ?_
    refine lv_aload_n hx hb d_R_publish_72 rfl (lv_at hl 0 rfl) ?_
    refine va_get (D := D) (ci := 2) (v := .ref (ad 17)) (C := R_R) (T := F_R) (N := 6) hx hb htb u_R hown hK hP 15 rfl rfl 3 (by decide) (htb _ q137) (fun _ h9 => h9) rfl d_R_publish_73 ?_
    refine nr_iconst hx hb 0 d_R_publish_76 (by decide) ?_
    refine nr_bipush hx hb 42 d_R_publish_77 (by decide) ?_
    refine nr_copy hx hb (hml.trans hl.1.symm) hown (htb _ q233) (htb _ q235) (htb _ q234) (htb _ q12) hK hP hD hS 16 17 13 14 rfl rfl rfl rfl (Nat.le_of_ble_eq_true rfl) (Nat.le_of_ble_eq_true rfl) d_R_publish_79 (fun H locs hP hD hS => ?_)
    replace hP : va_P D cls (wR ad ca P S (upr G 2 (G 1))) H := hP
    replace hD : va_D A (wR ad ca P S (upr G 2 (G 1))) := hD
    refine lv_aload_n hx hb d_R_publish_82 rfl (lv_at hl 0 rfl) ?_
    refine lv_dup hx hb d_R_publish_83 rfl ?_
    refine va_get (D := D) (ci := 2) (v := .int (nI (G 0 1))) (C := R_R) (T := F_R) (N := 6) hx hb htb u_R hown hK hP 15 rfl rfl 5 (by decide) (htb _ q139) (fun _ h9 => h9) rfl d_R_publish_84 ?_
    refine nr_iconst hx hb 1 d_R_publish_87 (by decide) ?_
    refine nr_iadd hx hb d_R_publish_88 ?_
    refine va_put (D := D) (ci := 2) (v := .int (nI ((G 0 1) + 1))) (ty := .int) (C := R_R) (T := F_R) (N := 6) hx hb htb u_R t_R t_R_ok n_R hown hK hP hD hS 15 rfl rfl 5 (by decide) (htb _ q139) (fun _ h9 => h9) rfl (by decide +kernel) rfl rfl (Nat.le_of_ble_eq_true rfl) d_R_publish_89 (fun H locs hP hD hS => ?_)
    replace hP : va_P D cls (wR ad ca P S (up2 (upr G 2 (G 1)) 0 1 ((G 0 1) + 1))) H := hP
    replace hD : va_D A (wR ad ca P S (up2 (upr G 2 (G 1)) 0 1 ((G 0 1) + 1))) := hD
    refine lv_iload_n hx hb d_R_publish_92 rfl (lv_at hl 1 rfl) ?_
    exact W.iret (v := (nI acc)) hx hb hr (fun t ht hW => ⟨⟨_, (), rfl, by rw [← hres, pro], by rw [ht]; exact hP, hD⟩, hS.F ht⟩) hS.2.2 d_R_publish_93
  | succ k ih_4 =>
    refine lv_iload_n hx hb d_R_publish_4 rfl (lv_at hl 2 rfl) ?_
    refine lv_aload_n hx hb d_R_publish_5 rfl (lv_at hl 0 rfl) ?_
    refine va_get (D := D) (ci := 2) (v := .ref (ad 1)) (C := R_R) (T := F_R) (N := 6) hx hb htb u_R hown hK hP 15 rfl rfl 0 (by decide) (htb _ q134) (fun _ h9 => h9) rfl d_R_publish_6 ?_
    refine va_getN (D := D) (ci := 0) (v := .int (nI (P 0 1))) (C := R_P) (T := F_P) (N := 12) hx hb htb u_P hown hK hP 0 rfl rfl 1 (by decide) (hN.at q33 rfl rfl) (fun _ h9 => h9) rfl d_R_publish_9 ?_
    refine nr_icmp_ge (tgt := 67) hx hb (by omega) (by omega) d_R_publish_12 (by decide) (fun c_12 => by exfalso; omega) (fun c_12 => ?_)
    refine nr_iconst hx hb 0 d_R_publish_15 (by decide) ?_
    refine lv_istore_n (lv' := [(3, .int (nI 0)), (0, .ref (ad 0)), (1, .int (nI acc)), (2, .int (nI d))]) hx hb d_R_publish_16 rfl hl (by decide) rfl (fun ls hl => ?_)
    replace hl : ∃ k2 p1 a2 : Nat, (p1 + k2 = P 0 0) ∧ (pro P G k (d + 1) (pri G d k2 p1 a2) = pubR P G) ∧ lv_has ls 5 [(0, .ref (ad 0)), (1, .int (nI a2)), (2, .int (nI d)), (3, .int (nI p1))] := ⟨P 0 0, 0, acc, Nat.zero_add _, (by rw [← hres, pro]), lv_sub hl [1, 2, 3, 0] rfl⟩
    obtain ⟨k2, p1, a2, hk2, hin, hl⟩ := hl
    induction k2 generalizing p1 a2 ls with
    | zero =>
      refine lv_iload_n hx hb d_R_publish_17 rfl (lv_at hl 3 rfl) ?_
      refine lv_aload_n hx hb d_R_publish_18 rfl (lv_at hl 0 rfl) ?_
      refine va_get (D := D) (ci := 2) (v := .ref (ad 1)) (C := R_R) (T := F_R) (N := 6) hx hb htb u_R hown hK hP 15 rfl rfl 0 (by decide) (htb _ q134) (fun _ h9 => h9) rfl d_R_publish_19 ?_
      refine va_getN (D := D) (ci := 0) (v := .int (nI (P 0 0))) (C := R_P) (T := F_P) (N := 12) hx hb htb u_P hown hK hP 0 rfl rfl 0 (by decide) (hN.at q30 rfl rfl) (fun _ h9 => h9) rfl d_R_publish_22 ?_
      refine nr_icmp_ge (tgt := 61) hx hb (by omega) (by omega) d_R_publish_25 (by decide) (fun c_25 => ?_) (fun c_25 => by exfalso; omega)
      refine nr_iinc (k := 2) (lv' := [(2, .int (nI (d + 1))), (0, .ref (ad 0)), (1, .int (nI a2)), (3, .int (nI p1))]) hx hb d_R_publish_61 hl rfl (by decide) rfl (fun ls hl => ?_)
      refine lv_goto (tgt := 4) hx hb d_R_publish_64 (by decide) ?_
      exact ih_4 _ _ _ (by omega) (by rw [pri] at hin; exact hin) (lv_sub hl [1, 2, 0] rfl)
    | succ k2 ih_17 =>
      refine lv_iload_n hx hb d_R_publish_17 rfl (lv_at hl 3 rfl) ?_
      refine lv_aload_n hx hb d_R_publish_18 rfl (lv_at hl 0 rfl) ?_
      refine va_get (D := D) (ci := 2) (v := .ref (ad 1)) (C := R_R) (T := F_R) (N := 6) hx hb htb u_R hown hK hP 15 rfl rfl 0 (by decide) (htb _ q134) (fun _ h9 => h9) rfl d_R_publish_19 ?_
      refine va_getN (D := D) (ci := 0) (v := .int (nI (P 0 0))) (C := R_P) (T := F_P) (N := 12) hx hb htb u_P hown hK hP 0 rfl rfl 0 (by decide) (hN.at q30 rfl rfl) (fun _ h9 => h9) rfl d_R_publish_22 ?_
      refine nr_icmp_ge (tgt := 61) hx hb (by omega) (by omega) d_R_publish_25 (by decide) (fun c_25 => by exfalso; omega) (fun c_25 => ?_)
      refine lv_iload_n hx hb d_R_publish_28 rfl (lv_at hl 3 rfl) ?_
      refine lv_iload_n hx hb d_R_publish_29 rfl (lv_at hl 2 rfl) ?_
      refine nr_calli (va_runS (As := [.int (nI p1), .int (nI d)]) (rest := []) ⟨hx, hb, hml, hown, hts⟩ (c_R_cell l D p1 d) ⟨callB_of 2 hts (gTB q_R_cell) rfl rfl rfl (htb _ q1) (htb _ q208) hd_R_cell ⟨Nat.le_of_ble_eq_true rfl, Nat.le_of_ble_eq_true rfl⟩, (htb _ q174)⟩ ⟨ro_blind, ro_pre hN (hP.sub (ws' := []) [] rfl) (hK.sub (tys' := []) [] rfl)⟩ rfl rfl hl.1 rfl (lv_room (Nat.le_of_ble_eq_true rfl)) d_R_publish_30 ⟨Nat.le_of_ble_eq_true rfl, Nat.le_of_ble_eq_true rfl⟩) (fun r_1 hr_1 => ?_)
      subst hr_1
      refine lv_istore (lv' := [(4, .int (nI (d * 6 + p1))), (0, .ref (ad 0)), (1, .int (nI a2)), (2, .int (nI d)), (3, .int (nI p1))]) hx hb d_R_publish_33 hl (by decide) rfl (fun ls hl => ?_)
      refine lv_aload_n hx hb d_R_publish_35 rfl (lv_at hl 1 rfl) ?_
      refine va_get (D := D) (ci := 2) (v := .ref (ad 16)) (C := R_R) (T := F_R) (N := 6) hx hb htb u_R hown hK hP 15 rfl rfl 2 (by decide) (htb _ q136) (fun _ h9 => h9) rfl d_R_publish_36 ?_
      refine lv_iload hx hb d_R_publish_39 (lv_at hl 0 rfl) ?_
      refine nr_iald hx hb hK hP 16 13 rfl rfl (by omega) (by decide) d_R_publish_41 ?_
      have hv_2 := hg1 (d * 6 + p1)
      refine lv_aload_n hx hb d_R_publish_42 rfl (lv_at hl 1 rfl) ?_
      refine va_get (D := D) (ci := 2) (v := .ref (ad 17)) (C := R_R) (T := F_R) (N := 6) hx hb htb u_R hown hK hP 15 rfl rfl 3 (by decide) (htb _ q137) (fun _ h9 => h9) rfl d_R_publish_43 ?_
      refine lv_iload hx hb d_R_publish_46 (lv_at hl 0 rfl) ?_
      refine nr_iald hx hb hK hP 17 14 rfl rfl (by omega) (by decide) d_R_publish_48 ?_
      have hv_3 := hg2 (d * 6 + p1)
      refine nr_icmp_eq (tgt := 55) hx hb (by omega) (by omega) d_R_publish_49 (by decide) (fun c_49 => ?_) (fun c_49 => ?_)
      · refine nr_iinc (k := 4) (lv' := [(3, .int (nI (p1 + 1))), (4, .int (nI (d * 6 + p1))), (0, .ref (ad 0)), (1, .int (nI a2)), (2, .int (nI d))]) hx hb d_R_publish_55 hl rfl (by decide) rfl (fun ls hl => ?_)
        refine lv_goto (tgt := 17) hx hb d_R_publish_58 (by decide) ?_
        exact ih_17 _ _ _ (by omega) (by rw [pri, if_pos c_49] at hin; exact hin) (lv_sub hl [2, 3, 4, 0] rfl)
      · refine nr_iinc (k := 2) (lv' := [(1, .int (nI (a2 + 1))), (4, .int (nI (d * 6 + p1))), (0, .ref (ad 0)), (2, .int (nI d)), (3, .int (nI p1))]) hx hb d_R_publish_52 hl rfl (by decide) rfl (fun ls hl => ?_)
        refine nr_iinc (k := 4) (lv' := [(3, .int (nI (p1 + 1))), (1, .int (nI (a2 + 1))), (4, .int (nI (d * 6 + p1))), (0, .ref (ad 0)), (2, .int (nI d))]) hx hb d_R_publish_55 hl rfl (by decide) rfl (fun ls hl => ?_)
        refine lv_goto (tgt := 17) hx hb d_R_publish_58 (by decide) ?_
        exact ih_17 _ _ _ (by omega) (by rw [pri, if_neg c_49] at hin; exact hin) (lv_sub hl [3, 1, 4, 0] rfl)

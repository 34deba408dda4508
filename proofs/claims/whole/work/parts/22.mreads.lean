set_option maxHeartbeats 4000000 in
set_option maxRecDepth 100000 in
theorem c_M_in (l : Launch) (D : va_G) (x lo hi : Int32) : Met l y_M_in w_M_in { frames := 0, cells := 0, slots := 0, locals := 0 } (ro_P [.int x, .int lo, .int hi] D ([]) ([])) (vp_Si (fun r => r = nI (if decide (lo ≤ x ∧ x ≤ hi) = true then 1 else 0))) 0 0 (fun _ => False) := by
  refine Met.ofW (cc := b_M_in) (maxL := 3) (ret := (some .boolean)) (by decide) rfl ?_
  intro p e s m args below meth c s₁ B hml hv
  obtain ⟨rfl, hN, hP, hK⟩ := hv
  have hx := B.exec
  have hb := B.bytes
  have hr := B.returns
  have hts := atoms_spec (ws := w_M_in) B.pre
  have htb : ∀ w ∈ TBG, w.before [.int x, .int lo, .int hi].toArray s = true := fun w h => hts w (List.mem_cons_of_mem _ h)
  have hown : s.vm.findClass R_M = some m.cls := findClass_of_methodNamed B.named
  have hlocks := B.notSynchronized
  have hl := lv_entry ([.int x, .int lo, .int hi]) (n := 3) (Nat.le_of_ble_eq_true rfl)
  rw [lg_entry_eq]
  generalize (lg_sl ([.int x, .int lo, .int hi]) ++ List.replicate (3 - (lg_sl ([.int x, .int lo, .int hi])).length) Slot.unset).toArray = ls at hl ⊢
  have hl : lv_has ls 3 [(0, .int x), (1, .int lo), (2, .int hi)] := hl
  refine lv_iload_n hx hb d_M_in_0 rfl (lv_at hl 0 rfl) ?_
  refine lv_iload_n hx hb d_M_in_1 rfl (lv_at hl 1 rfl) ?_
  refine lv_icmp_lt (tgt := 14) hx hb d_M_in_2 (by decide) (fun c_2 => ?_) (fun c_2 => ?_)
  · refine nr_iconst hx hb 0 d_M_in_14 (by decide) ?_
    exact W.zret (v := (nI 0)) hx hb hr rfl (fun t ht hW => ⟨_, rfl, by rw [decide_eq_false (fun h => absurd c_2 (Int32.not_lt.mpr h.1))]; rfl, ht⟩) (fun q h => by cases h) d_M_in_15
  · refine lv_iload_n hx hb d_M_in_5 rfl (lv_at hl 0 rfl) ?_
    refine lv_iload_n hx hb d_M_in_6 rfl (lv_at hl 2 rfl) ?_
    refine lv_icmp_gt (tgt := 14) hx hb d_M_in_7 (by decide) (fun c_7 => ?_) (fun c_7 => ?_)
    · refine nr_iconst hx hb 0 d_M_in_14 (by decide) ?_
      exact W.zret (v := (nI 0)) hx hb hr rfl (fun t ht hW => ⟨_, rfl, by rw [decide_eq_false (fun h => absurd c_7 (Int32.not_lt.mpr h.2))]; rfl, ht⟩) (fun q h => by cases h) d_M_in_15
    · refine nr_iconst hx hb 1 d_M_in_10 (by decide) ?_
      refine lv_goto (tgt := 15) hx hb d_M_in_11 (by decide) ?_
      exact W.zret (v := (nI 1)) hx hb hr rfl (fun t ht hW => ⟨_, rfl, by rw [decide_eq_true ⟨Int32.not_lt.mp c_2, Int32.not_lt.mp c_7⟩]; rfl, ht⟩) (fun q h => by cases h) d_M_in_15
set_option maxHeartbeats 4000000 in
set_option maxRecDepth 100000 in
theorem c_M_isPerson (l : Launch) (D : va_G) (am : Nat → Nat) (cm : Nat → ClassId) (P G X : Nat → Nat → Nat) (a : Nat) (cS : ClassId) (sh : Nat → Nat) (hP0 : okP P) (hG0 : okG G) (hX0 : okX X) (hsh : ∀ k, sh k ≤ 3) (x : Int32) : Met l y_M_isPerson w_M_isPerson { frames := 1, cells := 0, slots := 0, locals := 22 } (ro_P [.ref (am 0), .int x] D (wMS am cm P G X a cS sh) (tMS cm cS)) (vp_Si (fun r => r = nI (if inR x (P 0 0) = true then 1 else 0))) 0 0 (fun _ => False) := by
  refine Met.ofW (cc := b_M_isPerson) (maxL := 2) (ret := (some .boolean)) (by decide) rfl ?_
  intro p e s m args below meth c s₁ B hml hv
  obtain ⟨rfl, hN, hP, hK⟩ := hv
  have hx := B.exec
  have hb := B.bytes
  have hr := B.returns
  have hts := atoms_spec (ws := w_M_isPerson) B.pre
  have htb : ∀ w ∈ TBG, w.before [.ref (am 0), .int x].toArray s = true := fun w h => hts w (List.mem_cons_of_mem _ h)
  have hown : s.vm.findClass R_M = some m.cls := findClass_of_methodNamed B.named
  have hlocks := B.notSynchronized
  have hl := lv_entry ([.ref (am 0), .int x]) (n := 2) (Nat.le_of_ble_eq_true rfl)
  rw [lg_entry_eq]
  generalize (lg_sl ([.ref (am 0), .int x]) ++ List.replicate (2 - (lg_sl ([.ref (am 0), .int x])).length) Slot.unset).toArray = ls at hl ⊢
  have hl : lv_has ls 2 [(0, .ref (am 0)), (1, .int x)] := hl
  obtain ⟨h00, h01, h02, h03, h04, h05, hp1, hp2, hp3, hp4, hp5, hp6⟩ := id hP0
  obtain ⟨k00, k01, hg1, hg2⟩ := id hG0
  obtain ⟨x00, x01, x02, x03, hx1, hx2, hx3, hx4, hx5, hx6, hx7⟩ := id hX0
  refine lv_iload_n hx hb d_M_isPerson_0 rfl (lv_at hl 1 rfl) ?_
  refine nr_iconst hx hb 0 d_M_isPerson_1 (by decide) ?_
  refine lv_aload_n hx hb d_M_isPerson_2 rfl (lv_at hl 0 rfl) ?_
  refine va_get (D := D) (ci := 3) (v := .int (nI (P 0 0))) (C := R_M) (T := F_M) (N := 26) hx hb htb u_M hown hK hP 0 rfl rfl 1 (by decide) (htb _ q580) (fun _ h9 => h9) rfl d_M_isPerson_3 ?_
  refine nr_iconst hx hb 1 d_M_isPerson_6 (by decide) ?_
  refine lv_isub hx hb d_M_isPerson_7 ?_
  refine nr_calli (va_runS (As := [.int x, .int (nI 0), .int (nI (P 0 0) - nI 1)]) (rest := []) ⟨hx, hb, hml, hown, hts⟩ (c_M_in l D x (nI 0) (nI (P 0 0) - nI 1)) ⟨callB_of 3 hts (gTB q_M_in) rfl rfl rfl (htb _ q4) (htb _ q666) hd_M_in ⟨Nat.le_of_ble_eq_true rfl, Nat.le_of_ble_eq_true rfl⟩, (htb _ q667)⟩ ⟨ro_blind, ro_pre hN (hP.sub (ws' := []) [] rfl) (hK.sub (tys' := []) [] rfl)⟩ rfl rfl hl.1 rfl (lv_room (Nat.le_of_ble_eq_true rfl)) d_M_isPerson_8 ⟨Nat.le_of_ble_eq_true rfl, Nat.le_of_ble_eq_true rfl⟩) (fun r_1 hr_1 => ?_)
  subst hr_1
  exact W.zret (v := (nI (if decide ((nI 0) ≤ x ∧ x ≤ (nI (P 0 0) - nI 1)) = true then 1 else 0))) hx hb hr (nr_bool b01_l2) (fun t ht hW => ⟨_, rfl, by rw [inR_eq x (by omega)], ht⟩) (fun q h => by cases h) d_M_isPerson_11
set_option maxHeartbeats 4000000 in
set_option maxRecDepth 100000 in
theorem c_M_isDay (l : Launch) (D : va_G) (am : Nat → Nat) (cm : Nat → ClassId) (P G X : Nat → Nat → Nat) (a : Nat) (cS : ClassId) (sh : Nat → Nat) (hP0 : okP P) (hG0 : okG G) (hX0 : okX X) (hsh : ∀ k, sh k ≤ 3) (x : Int32) : Met l y_M_isDay w_M_isDay { frames := 1, cells := 0, slots := 0, locals := 22 } (ro_P [.ref (am 0), .int x] D (wMS am cm P G X a cS sh) (tMS cm cS)) (vp_Si (fun r => r = nI (if inR x (P 0 1) = true then 1 else 0))) 0 0 (fun _ => False) := by
  refine Met.ofW (cc := b_M_isDay) (maxL := 2) (ret := (some .boolean)) (by decide) rfl ?_
  intro p e s m args below meth c s₁ B hml hv
  obtain ⟨rfl, hN, hP, hK⟩ := hv
  have hx := B.exec
  have hb := B.bytes
  have hr := B.returns
  have hts := atoms_spec (ws := w_M_isDay) B.pre
  have htb : ∀ w ∈ TBG, w.before [.ref (am 0), .int x].toArray s = true := fun w h => hts w (List.mem_cons_of_mem _ h)
  have hown : s.vm.findClass R_M = some m.cls := findClass_of_methodNamed B.named
  have hlocks := B.notSynchronized
  have hl := lv_entry ([.ref (am 0), .int x]) (n := 2) (Nat.le_of_ble_eq_true rfl)
  rw [lg_entry_eq]
  generalize (lg_sl ([.ref (am 0), .int x]) ++ List.replicate (2 - (lg_sl ([.ref (am 0), .int x])).length) Slot.unset).toArray = ls at hl ⊢
  have hl : lv_has ls 2 [(0, .ref (am 0)), (1, .int x)] := hl
  obtain ⟨h00, h01, h02, h03, h04, h05, hp1, hp2, hp3, hp4, hp5, hp6⟩ := id hP0
  obtain ⟨k00, k01, hg1, hg2⟩ := id hG0
  obtain ⟨x00, x01, x02, x03, hx1, hx2, hx3, hx4, hx5, hx6, hx7⟩ := id hX0
  refine lv_iload_n hx hb d_M_isDay_0 rfl (lv_at hl 1 rfl) ?_
  refine nr_iconst hx hb 0 d_M_isDay_1 (by decide) ?_
  refine lv_aload_n hx hb d_M_isDay_2 rfl (lv_at hl 0 rfl) ?_
  refine va_get (D := D) (ci := 3) (v := .int (nI (P 0 1))) (C := R_M) (T := F_M) (N := 26) hx hb htb u_M hown hK hP 0 rfl rfl 2 (by decide) (htb _ q581) (fun _ h9 => h9) rfl d_M_isDay_3 ?_
  refine nr_iconst hx hb 1 d_M_isDay_6 (by decide) ?_
  refine lv_isub hx hb d_M_isDay_7 ?_
  refine nr_calli (va_runS (As := [.int x, .int (nI 0), .int (nI (P 0 1) - nI 1)]) (rest := []) ⟨hx, hb, hml, hown, hts⟩ (c_M_in l D x (nI 0) (nI (P 0 1) - nI 1)) ⟨callB_of 3 hts (gTB q_M_in) rfl rfl rfl (htb _ q4) (htb _ q666) hd_M_in ⟨Nat.le_of_ble_eq_true rfl, Nat.le_of_ble_eq_true rfl⟩, (htb _ q667)⟩ ⟨ro_blind, ro_pre hN (hP.sub (ws' := []) [] rfl) (hK.sub (tys' := []) [] rfl)⟩ rfl rfl hl.1 rfl (lv_room (Nat.le_of_ble_eq_true rfl)) d_M_isDay_8 ⟨Nat.le_of_ble_eq_true rfl, Nat.le_of_ble_eq_true rfl⟩) (fun r_1 hr_1 => ?_)
  subst hr_1
  exact W.zret (v := (nI (if decide ((nI 0) ≤ x ∧ x ≤ (nI (P 0 1) - nI 1)) = true then 1 else 0))) hx hb hr (nr_bool b01_l2) (fun t ht hW => ⟨_, rfl, by rw [inR_eq x (by omega)], ht⟩) (fun q h => by cases h) d_M_isDay_11
set_option maxHeartbeats 4000000 in
set_option maxRecDepth 100000 in
theorem c_M_between (l : Launch) (D : va_G) (x y : Nat) (hx3 : x ≤ 3) (hy1 : 1 ≤ y) : Met l y_M_between w_M_between { frames := 0, cells := 0, slots := 0, locals := 0 } (ro_P [.int (nI x), .int (nI y)] D ([]) ([])) (vp_Si (fun r => r = nI (16 + 8 * y - 8 * x))) 0 0 (fun _ => False) := by
  refine Met.ofW (cc := b_M_between) (maxL := 2) (ret := (some .int)) (by decide) rfl ?_
  intro p e s m args below meth c s₁ B hml hv
  obtain ⟨rfl, hN, hP, hK⟩ := hv
  have hx := B.exec
  have hb := B.bytes
  have hr := B.returns
  have hts := atoms_spec (ws := w_M_between) B.pre
  have htb : ∀ w ∈ TBG, w.before [.int (nI x), .int (nI y)].toArray s = true := fun w h => hts w (List.mem_cons_of_mem _ h)
  have hown : s.vm.findClass R_M = some m.cls := findClass_of_methodNamed B.named
  have hlocks := B.notSynchronized
  have hl := lv_entry ([.int (nI x), .int (nI y)]) (n := 2) (Nat.le_of_ble_eq_true rfl)
  rw [lg_entry_eq]
  generalize (lg_sl ([.int (nI x), .int (nI y)]) ++ List.replicate (2 - (lg_sl ([.int (nI x), .int (nI y)])).length) Slot.unset).toArray = ls at hl ⊢
  have hl : lv_has ls 2 [(0, .int (nI x)), (1, .int (nI y))] := hl
  refine nr_bipush hx hb 24 d_M_between_0 (by decide) ?_
  refine nr_bipush hx hb 8 d_M_between_2 (by decide) ?_
  refine lv_iload_n hx hb d_M_between_4 rfl (lv_at hl 1 rfl) ?_
  refine nr_imul hx hb d_M_between_5 ?_
  refine nr_top (y := nI (y * 8)) (congrArg nI (Nat.mul_comm _ _)) ?_
  refine nr_iadd hx hb d_M_between_6 ?_
  refine nr_iconst hx hb 2 d_M_between_7 (by decide) ?_
  refine nr_isub hx hb (by omega) d_M_between_8 ?_
  refine nr_bipush hx hb 6 d_M_between_9 (by decide) ?_
  refine nr_bipush hx hb 8 d_M_between_11 (by decide) ?_
  refine lv_iload_n hx hb d_M_between_13 rfl (lv_at hl 0 rfl) ?_
  refine nr_imul hx hb d_M_between_14 ?_
  refine nr_top (y := nI (x * 8)) (congrArg nI (Nat.mul_comm _ _)) ?_
  refine nr_iadd hx hb d_M_between_15 ?_
  refine nr_isub hx hb (by omega) d_M_between_16 ?_
  exact W.iret (v := (nI (((24 + (y * 8)) - 2) - (6 + (x * 8))))) hx hb hr (fun t ht hW => ⟨_, rfl, congrArg nI (by omega), ht⟩) (fun q h => by cases h) d_M_between_17
set_option maxHeartbeats 4000000 in
set_option maxRecDepth 100000 in
theorem c_M_isTired (l : Launch) (D : va_G) (am : Nat → Nat) (cm : Nat → ClassId) (P G X : Nat → Nat → Nat) (a : Nat) (cS : ClassId) (sh : Nat → Nat) (hP0 : okP P) (hG0 : okG G) (hX0 : okX X) (hsh : ∀ k, sh k ≤ 3) (p1 d : Nat) (hp : p1 < 6) (hd : d < 7) : Met l y_M_isTired w_M_isTired { frames := 1, cells := 0, slots := 0, locals := 21 } (ro_P [.ref (am 0), .ref a, .int (nI p1), .int (nI d)] D (wMS am cm P G X a cS sh) (tMS cm cS)) (vp_Si (fun r => r = nI (if breaks P (hadT sh p1 d) (sh (d * 6 + p1)) = true then 1 else 0))) 0 0 (fun _ => False) := by
  refine Met.ofW (cc := b_M_isTired) (maxL := 6) (ret := (some .boolean)) (by decide) rfl ?_
  intro p e s m args below meth c s₁ B hml hv
  obtain ⟨rfl, hN, hP, hK⟩ := hv
  have hx := B.exec
  have hb := B.bytes
  have hr := B.returns
  have hts := atoms_spec (ws := w_M_isTired) B.pre
  have htb : ∀ w ∈ TBG, w.before [.ref (am 0), .ref a, .int (nI p1), .int (nI d)].toArray s = true := fun w h => hts w (List.mem_cons_of_mem _ h)
  have hown : s.vm.findClass R_M = some m.cls := findClass_of_methodNamed B.named
  have hlocks := B.notSynchronized
  have hl := lv_entry ([.ref (am 0), .ref a, .int (nI p1), .int (nI d)]) (n := 6) (Nat.le_of_ble_eq_true rfl)
  rw [lg_entry_eq]
  generalize (lg_sl ([.ref (am 0), .ref a, .int (nI p1), .int (nI d)]) ++ List.replicate (6 - (lg_sl ([.ref (am 0), .ref a, .int (nI p1), .int (nI d)])).length) Slot.unset).toArray = ls at hl ⊢
  have hl : lv_has ls 6 [(0, .ref (am 0)), (1, .ref a), (2, .int (nI p1)), (3, .int (nI d))] := hl
  obtain ⟨h00, h01, h02, h03, h04, h05, hp1, hp2, hp3, hp4, hp5, hp6⟩ := id hP0
  obtain ⟨k00, k01, hg1, hg2⟩ := id hG0
  obtain ⟨x00, x01, x02, x03, hx1, hx2, hx3, hx4, hx5, hx6, hx7⟩ := id hX0
  refine lv_iload_n hx hb d_M_isTired_0 rfl (lv_at hl 3 rfl) ?_
  refine nr_if_ne (tgt := 6) hx hb (by omega) d_M_isTired_1 (by decide) (fun c_1 => ?_) (fun c_1 => ?_)
  · refine lv_aload_n hx hb d_M_isTired_6 rfl (lv_at hl 1 rfl) ?_
    refine nr_bipush hx hb 6 d_M_isTired_7 (by decide) ?_
    refine lv_iload_n hx hb d_M_isTired_9 rfl (lv_at hl 3 rfl) ?_
    refine nr_iconst hx hb 1 d_M_isTired_10 (by decide) ?_
    refine nr_isub hx hb (by omega) d_M_isTired_11 ?_
    refine nr_imul hx hb d_M_isTired_12 ?_
    refine nr_top (y := nI ((d - 1) * 6)) (congrArg nI (Nat.mul_comm _ _)) ?_
    refine lv_iload_n hx hb d_M_isTired_13 rfl (lv_at hl 2 rfl) ?_
    refine nr_iadd hx hb d_M_isTired_14 ?_
    refine nr_iald hx hb hK hP 15 14 rfl rfl (by omega) (by decide) d_M_isTired_15 ?_
    have hv_1 := hsh (((d - 1) * 6) + p1)
    refine lv_istore (lv' := [(4, .int (nI (sh (((d - 1) * 6) + p1)))), (0, .ref (am 0)), (1, .ref a), (2, .int (nI p1)), (3, .int (nI d))]) hx hb d_M_isTired_16 hl (by decide) rfl (fun ls hl => ?_)
    refine lv_aload_n hx hb d_M_isTired_18 rfl (lv_at hl 2 rfl) ?_
    refine nr_bipush hx hb 6 d_M_isTired_19 (by decide) ?_
    refine lv_iload_n hx hb d_M_isTired_21 rfl (lv_at hl 4 rfl) ?_
    refine nr_imul hx hb d_M_isTired_22 ?_
    refine nr_top (y := nI (d * 6)) (congrArg nI (Nat.mul_comm _ _)) ?_
    refine lv_iload_n hx hb d_M_isTired_23 rfl (lv_at hl 3 rfl) ?_
    refine nr_iadd hx hb d_M_isTired_24 ?_
    refine nr_iald hx hb hK hP 15 14 rfl rfl (by omega) (by decide) d_M_isTired_25 ?_
    have hv_2 := hsh ((d * 6) + p1)
    refine lv_istore (lv' := [(5, .int (nI (sh ((d * 6) + p1)))), (4, .int (nI (sh (((d - 1) * 6) + p1)))), (0, .ref (am 0)), (1, .ref a), (2, .int (nI p1)), (3, .int (nI d))]) hx hb d_M_isTired_26 hl (by decide) rfl (fun ls hl => ?_)
    refine lv_iload hx hb d_M_isTired_28 (lv_at hl 1 rfl) ?_
    refine nr_if_le (tgt := 56) hx hb (by omega) d_M_isTired_30 (by decide) (fun c_30 => ?_) (fun c_30 => ?_)
    · refine nr_iconst hx hb 0 d_M_isTired_56 (by decide) ?_
      exact W.zret (v := (nI 0)) hx hb hr rfl (fun t ht hW => ⟨_, rfl, by unfold hadT breaks; rw [if_neg c_1, if_neg (by simp; omega)], ht⟩) (fun q h => by cases h) d_M_isTired_57
    · refine lv_iload hx hb d_M_isTired_33 (lv_at hl 0 rfl) ?_
      refine nr_if_le (tgt := 56) hx hb (by omega) d_M_isTired_35 (by decide) (fun c_35 => ?_) (fun c_35 => ?_)
      · refine nr_iconst hx hb 0 d_M_isTired_56 (by decide) ?_
        exact W.zret (v := (nI 0)) hx hb hr rfl (fun t ht hW => ⟨_, rfl, by unfold hadT breaks; rw [if_neg c_1, if_neg (by simp; omega)], ht⟩) (fun q h => by cases h) d_M_isTired_57
      · refine lv_iload hx hb d_M_isTired_38 (lv_at hl 1 rfl) ?_
        refine lv_iload hx hb d_M_isTired_40 (lv_at hl 0 rfl) ?_
        refine nr_calli (va_runS (As := [.int (nI (sh (((d - 1) * 6) + p1))), .int (nI (sh ((d * 6) + p1)))]) (rest := []) ⟨hx, hb, hml, hown, hts⟩ (c_M_between l D (sh (((d - 1) * 6) + p1)) (sh ((d * 6) + p1)) (by omega) (by omega)) ⟨callB_of 2 hts (gTB q_M_between) rfl rfl rfl (htb _ q4) (htb _ q733) hd_M_between ⟨Nat.le_of_ble_eq_true rfl, Nat.le_of_ble_eq_true rfl⟩, (htb _ q734)⟩ ⟨ro_blind, ro_pre hN (hP.sub (ws' := []) [] rfl) (hK.sub (tys' := []) [] rfl)⟩ rfl rfl hl.1 rfl (lv_room (Nat.le_of_ble_eq_true rfl)) d_M_isTired_42 ⟨Nat.le_of_ble_eq_true rfl, Nat.le_of_ble_eq_true rfl⟩) (fun r_3 hr_3 => ?_)
        subst hr_3
        refine lv_aload_n hx hb d_M_isTired_45 rfl (lv_at hl 2 rfl) ?_
        refine va_get (D := D) (ci := 3) (v := .int (nI (P 0 2))) (C := R_M) (T := F_M) (N := 26) hx hb htb u_M hown hK hP 0 rfl rfl 14 (by decide) (htb _ q593) (fun _ h9 => h9) rfl d_M_isTired_46 ?_
        refine nr_icmp_ge (tgt := 56) hx hb (by omega) (by omega) d_M_isTired_49 (by decide) (fun c_49 => ?_) (fun c_49 => ?_)
        · refine nr_iconst hx hb 0 d_M_isTired_56 (by decide) ?_
          exact W.zret (v := (nI 0)) hx hb hr rfl (fun t ht hW => ⟨_, rfl, by unfold hadT breaks; rw [if_neg c_1, if_neg (by simp; omega)], ht⟩) (fun q h => by cases h) d_M_isTired_57
        · refine nr_iconst hx hb 1 d_M_isTired_52 (by decide) ?_
          refine lv_goto (tgt := 57) hx hb d_M_isTired_53 (by decide) ?_
          exact W.zret (v := (nI 1)) hx hb hr rfl (fun t ht hW => ⟨_, rfl, by unfold hadT breaks; rw [if_neg c_1, if_pos (by simp; omega)], ht⟩) (fun q h => by cases h) d_M_isTired_57
  · refine nr_iconst hx hb 0 d_M_isTired_4 (by decide) ?_
    exact W.zret (v := (nI 0)) hx hb hr rfl (fun t ht hW => ⟨_, rfl, by unfold hadT; rw [if_pos c_1]; simp [breaks], ht⟩) (fun q h => by cases h) d_M_isTired_5
set_option maxHeartbeats 4000000 in
set_option maxRecDepth 100000 in
theorem c_M_many (l : Launch) (D : va_G) (a : Nat) (cS : ClassId) (sh : Nat → Nat) (hsh : ∀ k, sh k ≤ 3) (p1 d : Nat) (hp : p1 < 6) (hd : d < 7) : Met l y_M_many w_M_many { frames := 0, cells := 0, slots := 0, locals := 0 } (ro_P [.ref a, .int (nI p1), .int (nI d)] D ([(a, .inl (cS, 42, .inl (fun k => nI (sh k))))]) ([(cS, .int)])) (vp_Si (fun r => r = nI (cnt sh p1 (d + 1)))) 0 0 (fun _ => False) := by
  refine Met.ofW (cc := b_M_many) (maxL := 5) (ret := (some .int)) (by decide) rfl ?_
  intro p e s m args below meth c s₁ B hml hv
  obtain ⟨rfl, hN, hP, hK⟩ := hv
  have hx := B.exec
  have hb := B.bytes
  have hr := B.returns
  have hts := atoms_spec (ws := w_M_many) B.pre
  have htb : ∀ w ∈ TBG, w.before [.ref a, .int (nI p1), .int (nI d)].toArray s = true := fun w h => hts w (List.mem_cons_of_mem _ h)
  have hown : s.vm.findClass R_M = some m.cls := findClass_of_methodNamed B.named
  have hlocks := B.notSynchronized
  have hl := lv_entry ([.ref a, .int (nI p1), .int (nI d)]) (n := 5) (Nat.le_of_ble_eq_true rfl)
  rw [lg_entry_eq]
  generalize (lg_sl ([.ref a, .int (nI p1), .int (nI d)]) ++ List.replicate (5 - (lg_sl ([.ref a, .int (nI p1), .int (nI d)])).length) Slot.unset).toArray = ls at hl ⊢
  have hl : lv_has ls 5 [(0, .ref a), (1, .int (nI p1)), (2, .int (nI d))] := hl
  refine nr_iconst hx hb 0 d_M_many_0 (by decide) ?_
  refine lv_istore_n (lv' := [(3, .int (nI 0)), (0, .ref a), (1, .int (nI p1)), (2, .int (nI d))]) hx hb d_M_many_1 rfl hl (by decide) rfl (fun ls hl => ?_)
  refine nr_iconst hx hb 0 d_M_many_2 (by decide) ?_
  refine lv_istore (lv' := [(4, .int (nI 0)), (3, .int (nI 0)), (0, .ref a), (1, .int (nI p1)), (2, .int (nI d))]) hx hb d_M_many_3 hl (by decide) rfl (fun ls hl => ?_)
  replace hl : ∃ k j acc : Nat, (j + k = d + 1) ∧ (acc = cnt sh p1 j) ∧ lv_has ls 5 [(0, .ref a), (1, .int (nI p1)), (2, .int (nI d)), (3, .int (nI acc)), (4, .int (nI j))] := ⟨d + 1, 0, 0, Nat.zero_add _, rfl, lv_sub hl [2, 3, 4, 1, 0] rfl⟩
  obtain ⟨k, j, acc, hk, hacc, hl⟩ := hl
  induction k generalizing j acc ls with
  | zero =>
    refine lv_iload hx hb d_M_many_5 (lv_at hl 4 rfl) ?_
    refine lv_iload_n hx hb d_M_many_7 rfl (lv_at hl 2 rfl) ?_
    refine nr_icmp_gt (tgt := 37) hx hb (by omega) (by omega) d_M_many_8 (by decide) (fun c_8 => ?_) (fun c_8 => by exfalso; omega)
    refine lv_iload_n hx hb d_M_many_37 rfl (lv_at hl 3 rfl) ?_
    exact W.iret (v := (nI acc)) hx hb hr (fun t ht hW => ⟨_, rfl, by rw [hacc, show j = d + 1 by omega], ht⟩) (fun q h => by cases h) d_M_many_38
  | succ k ih_5 =>
    refine lv_iload hx hb d_M_many_5 (lv_at hl 4 rfl) ?_
    refine lv_iload_n hx hb d_M_many_7 rfl (lv_at hl 2 rfl) ?_
    refine nr_icmp_gt (tgt := 37) hx hb (by omega) (by omega) d_M_many_8 (by decide) (fun c_8 => by exfalso; omega) (fun c_8 => ?_)
    refine lv_iload_n hx hb d_M_many_11 rfl (lv_at hl 3 rfl) ?_
    refine lv_aload_n hx hb d_M_many_12 rfl (lv_at hl 0 rfl) ?_
    refine nr_bipush hx hb 6 d_M_many_13 (by decide) ?_
    refine lv_iload hx hb d_M_many_15 (lv_at hl 4 rfl) ?_
    refine nr_imul hx hb d_M_many_17 ?_
    refine nr_top (y := nI (j * 6)) (congrArg nI (Nat.mul_comm _ _)) ?_
    refine lv_iload_n hx hb d_M_many_18 rfl (lv_at hl 1 rfl) ?_
    refine nr_iadd hx hb d_M_many_19 ?_
    refine nr_iald hx hb hK hP 0 0 rfl rfl (by omega) (by decide) d_M_many_20 ?_
    have hv_1 := hsh ((j * 6) + p1)
    refine nr_if_le (tgt := 28) hx hb (by omega) d_M_many_21 (by decide) (fun c_21 => ?_) (fun c_21 => ?_)
    · refine nr_iconst hx hb 0 d_M_many_28 (by decide) ?_
      refine nr_iadd hx hb d_M_many_29 ?_
      refine lv_istore_n (lv' := [(3, .int (nI (acc + 0))), (0, .ref a), (1, .int (nI p1)), (2, .int (nI d)), (4, .int (nI j))]) hx hb d_M_many_30 rfl hl (by decide) rfl (fun ls hl => ?_)
      refine nr_iinc (k := 4) (lv' := [(4, .int (nI (j + 1))), (3, .int (nI (acc + 0))), (0, .ref a), (1, .int (nI p1)), (2, .int (nI d))]) hx hb d_M_many_31 hl rfl (by decide) rfl (fun ls hl => ?_)
      refine lv_goto (tgt := 5) hx hb d_M_many_34 (by decide) ?_
      exact ih_5 _ _ _ (by omega) (by rw [cnt, ← hacc, if_pos c_21]) (lv_sub hl [2, 3, 4, 1, 0] rfl)
    · refine nr_iconst hx hb 1 d_M_many_24 (by decide) ?_
      refine lv_goto (tgt := 29) hx hb d_M_many_25 (by decide) ?_
      refine nr_iadd hx hb d_M_many_29 ?_
      refine lv_istore_n (lv' := [(3, .int (nI (acc + 1))), (0, .ref a), (1, .int (nI p1)), (2, .int (nI d)), (4, .int (nI j))]) hx hb d_M_many_30 rfl hl (by decide) rfl (fun ls hl => ?_)
      refine nr_iinc (k := 4) (lv' := [(4, .int (nI (j + 1))), (3, .int (nI (acc + 1))), (0, .ref a), (1, .int (nI p1)), (2, .int (nI d))]) hx hb d_M_many_31 hl rfl (by decide) rfl (fun ls hl => ?_)
      refine lv_goto (tgt := 5) hx hb d_M_many_34 (by decide) ?_
      exact ih_5 _ _ _ (by omega) (by rw [cnt, ← hacc, if_neg (by omega)]) (lv_sub hl [2, 3, 4, 1, 0] rfl)
set_option maxHeartbeats 4000000 in
set_option maxRecDepth 100000 in
theorem c_M_isMet (l : Launch) (D : va_G) (am : Nat → Nat) (cm : Nat → ClassId) (P G X : Nat → Nat → Nat) (a : Nat) (cS : ClassId) (sh : Nat → Nat) (hP0 : okP P) (hG0 : okG G) (hX0 : okX X) (hsh : ∀ k, sh k ≤ 3) (d sf : Nat) (hd : d < 7) (hs : sf < 4) : Met l y_M_isMet w_M_isMet { frames := 0, cells := 0, slots := 0, locals := 0 } (ro_P [.ref (am 0), .ref a, .int (nI d), .int (nI sf)] D (wMS am cm P G X a cS sh) (tMS cm cS)) (vp_Si (fun r => r = nI (if meets P sh d sf = true then 1 else 0))) 0 0 (fun _ => False) := by
  refine Met.ofW (cc := b_M_isMet) (maxL := 7) (ret := (some .boolean)) (by decide) rfl ?_
  intro p e s m args below meth c s₁ B hml hv
  obtain ⟨rfl, hN, hP, hK⟩ := hv
  have hx := B.exec
  have hb := B.bytes
  have hr := B.returns
  have hts := atoms_spec (ws := w_M_isMet) B.pre
  have htb : ∀ w ∈ TBG, w.before [.ref (am 0), .ref a, .int (nI d), .int (nI sf)].toArray s = true := fun w h => hts w (List.mem_cons_of_mem _ h)
  have hown : s.vm.findClass R_M = some m.cls := findClass_of_methodNamed B.named
  have hlocks := B.notSynchronized
  have hl := lv_entry ([.ref (am 0), .ref a, .int (nI d), .int (nI sf)]) (n := 7) (Nat.le_of_ble_eq_true rfl)
  rw [lg_entry_eq]
  generalize (lg_sl ([.ref (am 0), .ref a, .int (nI d), .int (nI sf)]) ++ List.replicate (7 - (lg_sl ([.ref (am 0), .ref a, .int (nI d), .int (nI sf)])).length) Slot.unset).toArray = ls at hl ⊢
  have hl : lv_has ls 7 [(0, .ref (am 0)), (1, .ref a), (2, .int (nI d)), (3, .int (nI sf))] := hl
  obtain ⟨h00, h01, h02, h03, h04, h05, hp1, hp2, hp3, hp4, hp5, hp6⟩ := id hP0
  obtain ⟨k00, k01, hg1, hg2⟩ := id hG0
  obtain ⟨x00, x01, x02, x03, hx1, hx2, hx3, hx4, hx5, hx6, hx7⟩ := id hX0
  refine nr_iconst hx hb 0 d_M_isMet_0 (by decide) ?_
  refine lv_istore (lv' := [(4, .int (nI 0)), (0, .ref (am 0)), (1, .ref a), (2, .int (nI d)), (3, .int (nI sf))]) hx hb d_M_isMet_1 hl (by decide) rfl (fun ls hl => ?_)
  refine nr_iconst hx hb 0 d_M_isMet_3 (by decide) ?_
  refine lv_istore (lv' := [(5, .int (nI 0)), (4, .int (nI 0)), (0, .ref (am 0)), (1, .ref a), (2, .int (nI d)), (3, .int (nI sf))]) hx hb d_M_isMet_4 hl (by decide) rfl (fun ls hl => ?_)
  refine nr_iconst hx hb 0 d_M_isMet_6 (by decide) ?_
  refine lv_istore (lv' := [(6, .int (nI 0)), (5, .int (nI 0)), (4, .int (nI 0)), (0, .ref (am 0)), (1, .ref a), (2, .int (nI d)), (3, .int (nI sf))]) hx hb d_M_isMet_7 hl (by decide) rfl (fun ls hl => ?_)
  replace hl : ∃ k i th sk : Nat, (i + k = P 0 0) ∧ (th ≤ i) ∧ (sk < 16) ∧ (mt P sh d sf k i th sk = mt P sh d sf (P 0 0) 0 0 0) ∧ lv_has ls 7 [(0, .ref (am 0)), (1, .ref a), (2, .int (nI d)), (3, .int (nI sf)), (4, .int (nI th)), (5, .int (nI sk)), (6, .int (nI i))] := ⟨P 0 0, 0, 0, 0, Nat.zero_add _, Nat.le_refl 0, by decide, rfl, lv_sub hl [3, 4, 5, 6, 2, 1, 0] rfl⟩
  obtain ⟨k, i, th, sk, hk, hth, hsk, hres, hl⟩ := hl
  induction k generalizing i th sk ls with
  | zero =>
    refine lv_iload hx hb d_M_isMet_9 (lv_at hl 6 rfl) ?_
    refine lv_aload_n hx hb d_M_isMet_11 rfl (lv_at hl 0 rfl) ?_
    refine va_get (D := D) (ci := 3) (v := .int (nI (P 0 0))) (C := R_M) (T := F_M) (N := 26) hx hb htb u_M hown hK hP 0 rfl rfl 1 (by decide) (htb _ q580) (fun _ h9 => h9) rfl d_M_isMet_12 ?_
    refine nr_icmp_ge (tgt := 52) hx hb (by omega) (by omega) d_M_isMet_15 (by decide) (fun c_15 => ?_) (fun c_15 => by exfalso; omega)
    rw [mt] at hres
    have hr1 : (mt P sh d sf (P 0 0) 0 0 0).1 = th := by rw [← hres]
    have hr2 : (mt P sh d sf (P 0 0) 0 0 0).2 = sk := by rw [← hres]
    refine lv_iload hx hb d_M_isMet_52 (lv_at hl 4 rfl) ?_
    refine lv_aload_n hx hb d_M_isMet_54 rfl (lv_at hl 0 rfl) ?_
    refine va_get (D := D) (ci := 3) (v := .ref (am 7)) (C := R_M) (T := F_M) (N := 26) hx hb htb u_M hown hK hP 0 rfl rfl 11 (by decide) (htb _ q590) (fun _ h9 => h9) rfl d_M_isMet_55 ?_
    refine nr_iconst hx hb 4 d_M_isMet_58 (by decide) ?_
    refine lv_iload_n hx hb d_M_isMet_59 rfl (lv_at hl 2 rfl) ?_
    refine nr_imul hx hb d_M_isMet_60 ?_
    refine nr_top (y := nI (d * 4)) (congrArg nI (Nat.mul_comm _ _)) ?_
    refine lv_iload_n hx hb d_M_isMet_61 rfl (lv_at hl 3 rfl) ?_
    refine nr_iadd hx hb d_M_isMet_62 ?_
    refine nr_iald hx hb hK hP 7 6 rfl rfl (by omega) (by decide) d_M_isMet_63 ?_
    have hv_1 := hp3 ((d * 4) + sf)
    refine nr_icmp_lt (tgt := 97) hx hb (by omega) (by omega) d_M_isMet_64 (by decide) (fun c_64 => ?_) (fun c_64 => ?_)
    · refine nr_iconst hx hb 0 d_M_isMet_97 (by decide) ?_
      exact W.zret (v := (nI 0)) hx hb hr rfl (fun t ht hW => ⟨_, rfl, by unfold meets; rw [hr1, hr2, if_neg (by simp; omega)], ht⟩) (fun q h => by cases h) d_M_isMet_98
    · refine lv_iload hx hb d_M_isMet_67 (lv_at hl 5 rfl) ?_
      refine lv_aload_n hx hb d_M_isMet_69 rfl (lv_at hl 0 rfl) ?_
      refine va_get (D := D) (ci := 3) (v := .ref (am 8)) (C := R_M) (T := F_M) (N := 26) hx hb htb u_M hown hK hP 0 rfl rfl 12 (by decide) (htb _ q591) (fun _ h9 => h9) rfl d_M_isMet_70 ?_
      refine nr_iconst hx hb 4 d_M_isMet_73 (by decide) ?_
      refine lv_iload_n hx hb d_M_isMet_74 rfl (lv_at hl 2 rfl) ?_
      refine nr_imul hx hb d_M_isMet_75 ?_
      refine nr_top (y := nI (d * 4)) (congrArg nI (Nat.mul_comm _ _)) ?_
      refine lv_iload_n hx hb d_M_isMet_76 rfl (lv_at hl 3 rfl) ?_
      refine nr_iadd hx hb d_M_isMet_77 ?_
      refine nr_iald hx hb hK hP 8 7 rfl rfl (by omega) (by decide) d_M_isMet_78 ?_
      have hv_2 := hp4 ((d * 4) + sf)
      refine nr_iand hx hb d_M_isMet_79 ?_
      refine lv_aload_n hx hb d_M_isMet_80 rfl (lv_at hl 0 rfl) ?_
      refine va_get (D := D) (ci := 3) (v := .ref (am 8)) (C := R_M) (T := F_M) (N := 26) hx hb htb u_M hown hK hP 0 rfl rfl 12 (by decide) (htb _ q591) (fun _ h9 => h9) rfl d_M_isMet_81 ?_
      refine nr_iconst hx hb 4 d_M_isMet_84 (by decide) ?_
      refine lv_iload_n hx hb d_M_isMet_85 rfl (lv_at hl 2 rfl) ?_
      refine nr_imul hx hb d_M_isMet_86 ?_
      refine nr_top (y := nI (d * 4)) (congrArg nI (Nat.mul_comm _ _)) ?_
      refine lv_iload_n hx hb d_M_isMet_87 rfl (lv_at hl 3 rfl) ?_
      refine nr_iadd hx hb d_M_isMet_88 ?_
      refine nr_iald hx hb hK hP 8 7 rfl rfl (by omega) (by decide) d_M_isMet_89 ?_
      have hv_3 := hp4 ((d * 4) + sf)
      refine nr_icmp_ne (tgt := 97) hx hb (Nat.lt_of_le_of_lt Nat.and_le_left (by omega)) (by omega) d_M_isMet_90 (by decide) (fun c_90 => ?_) (fun c_90 => ?_)
      · refine nr_iconst hx hb 0 d_M_isMet_97 (by decide) ?_
        exact W.zret (v := (nI 0)) hx hb hr rfl (fun t ht hW => ⟨_, rfl, by unfold meets; rw [hr1, hr2, if_neg (by simp; omega)], ht⟩) (fun q h => by cases h) d_M_isMet_98
      · refine nr_iconst hx hb 1 d_M_isMet_93 (by decide) ?_
        refine lv_goto (tgt := 98) hx hb d_M_isMet_94 (by decide) ?_
        exact W.zret (v := (nI 1)) hx hb hr rfl (fun t ht hW => ⟨_, rfl, by unfold meets; rw [hr1, hr2, if_pos (by simp; omega)], ht⟩) (fun q h => by cases h) d_M_isMet_98
  | succ k ih_9 =>
    refine lv_iload hx hb d_M_isMet_9 (lv_at hl 6 rfl) ?_
    refine lv_aload_n hx hb d_M_isMet_11 rfl (lv_at hl 0 rfl) ?_
    refine va_get (D := D) (ci := 3) (v := .int (nI (P 0 0))) (C := R_M) (T := F_M) (N := 26) hx hb htb u_M hown hK hP 0 rfl rfl 1 (by decide) (htb _ q580) (fun _ h9 => h9) rfl d_M_isMet_12 ?_
    refine nr_icmp_ge (tgt := 52) hx hb (by omega) (by omega) d_M_isMet_15 (by decide) (fun c_15 => by exfalso; omega) (fun c_15 => ?_)
    refine lv_aload_n hx hb d_M_isMet_18 rfl (lv_at hl 1 rfl) ?_
    refine nr_bipush hx hb 6 d_M_isMet_19 (by decide) ?_
    refine lv_iload_n hx hb d_M_isMet_21 rfl (lv_at hl 2 rfl) ?_
    refine nr_imul hx hb d_M_isMet_22 ?_
    refine nr_top (y := nI (d * 6)) (congrArg nI (Nat.mul_comm _ _)) ?_
    refine lv_iload hx hb d_M_isMet_23 (lv_at hl 6 rfl) ?_
    refine nr_iadd hx hb d_M_isMet_25 ?_
    refine nr_iald hx hb hK hP 15 14 rfl rfl (by omega) (by decide) d_M_isMet_26 ?_
    have hv_4 := hsh ((d * 6) + i)
    refine lv_iload_n hx hb d_M_isMet_27 rfl (lv_at hl 3 rfl) ?_
    refine nr_icmp_ne (tgt := 46) hx hb (by omega) (by omega) d_M_isMet_28 (by decide) (fun c_28 => ?_) (fun c_28 => ?_)
    · refine nr_iinc (k := 6) (lv' := [(6, .int (nI (i + 1))), (0, .ref (am 0)), (1, .ref a), (2, .int (nI d)), (3, .int (nI sf)), (4, .int (nI th)), (5, .int (nI sk))]) hx hb d_M_isMet_46 hl rfl (by decide) rfl (fun ls hl => ?_)
      refine lv_goto (tgt := 9) hx hb d_M_isMet_49 (by decide) ?_
      exact ih_9 _ _ _ _ (by omega) (by omega) hsk (by rw [← hres, mt, if_neg c_28]) (lv_sub hl [1, 2, 3, 4, 5, 6, 0] rfl)
    · refine nr_iinc (k := 4) (lv' := [(4, .int (nI (th + 1))), (0, .ref (am 0)), (1, .ref a), (2, .int (nI d)), (3, .int (nI sf)), (5, .int (nI sk)), (6, .int (nI i))]) hx hb d_M_isMet_31 hl rfl (by decide) rfl (fun ls hl => ?_)
      refine lv_iload hx hb d_M_isMet_34 (lv_at hl 5 rfl) ?_
      refine lv_aload_n hx hb d_M_isMet_36 rfl (lv_at hl 1 rfl) ?_
      refine va_get (D := D) (ci := 3) (v := .ref (am 1)) (C := R_M) (T := F_M) (N := 26) hx hb htb u_M hown hK hP 0 rfl rfl 4 (by decide) (htb _ q583) (fun _ h9 => h9) rfl d_M_isMet_37 ?_
      refine lv_iload hx hb d_M_isMet_40 (lv_at hl 6 rfl) ?_
      refine nr_iald hx hb hK hP 1 0 rfl rfl (by omega) (by decide) d_M_isMet_42 ?_
      have hv_5 := hp1 i
      refine nr_ior hx hb d_M_isMet_43 ?_
      refine lv_istore (lv' := [(5, .int (nI (sk ||| (P 1 i)))), (4, .int (nI (th + 1))), (0, .ref (am 0)), (1, .ref a), (2, .int (nI d)), (3, .int (nI sf)), (6, .int (nI i))]) hx hb d_M_isMet_44 hl (by decide) rfl (fun ls hl => ?_)
      refine nr_iinc (k := 6) (lv' := [(6, .int (nI (i + 1))), (5, .int (nI (sk ||| (P 1 i)))), (4, .int (nI (th + 1))), (0, .ref (am 0)), (1, .ref a), (2, .int (nI d)), (3, .int (nI sf))]) hx hb d_M_isMet_46 hl rfl (by decide) rfl (fun ls hl => ?_)
      refine lv_goto (tgt := 9) hx hb d_M_isMet_49 (by decide) ?_
      exact ih_9 _ _ _ _ (by omega) (by omega) (mt_lt hsk (hp1 i)) (by rw [← hres, mt, if_pos c_28]) (lv_sub hl [3, 4, 5, 6, 2, 1, 0] rfl)
set_option maxHeartbeats 4000000 in
set_option maxRecDepth 100000 in
theorem c_M_areMet (l : Launch) (D : va_G) (am : Nat → Nat) (cm : Nat → ClassId) (P G X : Nat → Nat → Nat) (a : Nat) (cS : ClassId) (sh : Nat → Nat) (hP0 : okP P) (hG0 : okG G) (hX0 : okX X) (hsh : ∀ k, sh k ≤ 3) (d : Nat) (hd : d < 7) : Met l y_M_areMet w_M_areMet { frames := 1, cells := 0, slots := 0, locals := 26 } (ro_P [.ref (am 0), .ref a, .int (nI d)] D (wMS am cm P G X a cS sh) (tMS cm cS)) (vp_Si (fun r => r = nI (if needUnmet P sh d = 0 then 1 else 0))) 0 0 (fun _ => False) := by
  refine Met.ofW (cc := b_M_areMet) (maxL := 3) (ret := (some .boolean)) (by decide) rfl ?_
  intro p e s m args below meth c s₁ B hml hv
  obtain ⟨rfl, hN, hP, hK⟩ := hv
  have hx := B.exec
  have hb := B.bytes
  have hr := B.returns
  have hts := atoms_spec (ws := w_M_areMet) B.pre
  have htb : ∀ w ∈ TBG, w.before [.ref (am 0), .ref a, .int (nI d)].toArray s = true := fun w h => hts w (List.mem_cons_of_mem _ h)
  have hown : s.vm.findClass R_M = some m.cls := findClass_of_methodNamed B.named
  have hlocks := B.notSynchronized
  have hl := lv_entry ([.ref (am 0), .ref a, .int (nI d)]) (n := 3) (Nat.le_of_ble_eq_true rfl)
  rw [lg_entry_eq]
  generalize (lg_sl ([.ref (am 0), .ref a, .int (nI d)]) ++ List.replicate (3 - (lg_sl ([.ref (am 0), .ref a, .int (nI d)])).length) Slot.unset).toArray = ls at hl ⊢
  have hl : lv_has ls 3 [(0, .ref (am 0)), (1, .ref a), (2, .int (nI d))] := hl
  obtain ⟨h00, h01, h02, h03, h04, h05, hp1, hp2, hp3, hp4, hp5, hp6⟩ := id hP0
  obtain ⟨k00, k01, hg1, hg2⟩ := id hG0
  obtain ⟨x00, x01, x02, x03, hx1, hx2, hx3, hx4, hx5, hx6, hx7⟩ := id hX0
  refine lv_aload_n hx hb d_M_areMet_0 rfl (lv_at hl 0 rfl) ?_
  refine lv_aload_n hx hb d_M_areMet_1 rfl (lv_at hl 1 rfl) ?_
  refine lv_iload_n hx hb d_M_areMet_2 rfl (lv_at hl 2 rfl) ?_
  refine nr_iconst hx hb 1 d_M_areMet_3 (by decide) ?_
  refine nr_calli (va_runV (As := [.ref a, .int (nI d), .int (nI 1)]) (rest := []) ⟨hx, hb, hml, hown, hts⟩ (c_M_isMet l D am cm P G X a cS sh hP0 hG0 hX0 hsh d 1 (by omega) (by omega)) ⟨callB_of 3 hts (gTB q_M_isMet) rfl rfl rfl (htb _ q4) (htb _ q717) hd_M_isMet ⟨Nat.le_of_ble_eq_true rfl, Nat.le_of_ble_eq_true rfl⟩, (htb _ q719), (htb _ sel_M_isMet)⟩ ⟨ro_blind, va_recv (hK.sub (tys' := []) [] rfl) hP (ci := 3) (q0 := 0) rfl rfl, ro_pre hN (hP.sub (ws' := (wMS am cm P G X a cS sh)) [0, 1, 2, 3, 4, 5, 6, 7, 8, 9, 10, 11, 12, 13, 14, 15] rfl) (hK.sub (tys' := (tMS cm cS)) [0, 1, 2, 3, 4, 5, 6, 7, 8, 9, 10, 11, 12, 13, 14] rfl)⟩ rfl rfl hl.1 rfl (lv_room (Nat.le_of_ble_eq_true rfl)) d_M_areMet_4 ⟨Nat.le_of_ble_eq_true rfl, Nat.le_of_ble_eq_true rfl⟩) (fun r_1 hr_1 => ?_)
  subst hr_1
  refine nr_if_eq (tgt := 34) hx hb b01_lt d_M_areMet_7 (by decide) (fun c_7 => ?_) (fun c_7 => ?_)
  · refine nr_iconst hx hb 0 d_M_areMet_34 (by decide) ?_
    exact W.zret (v := (nI 0)) hx hb hr rfl (fun t ht hW => ⟨_, rfl, by rw [if_neg (show ¬ needUnmet P sh d = 0 by simp [needUnmet, nu, b01_f c_7])], ht⟩) (fun q h => by cases h) d_M_areMet_35
  · refine lv_aload_n hx hb d_M_areMet_10 rfl (lv_at hl 0 rfl) ?_
    refine lv_aload_n hx hb d_M_areMet_11 rfl (lv_at hl 1 rfl) ?_
    refine lv_iload_n hx hb d_M_areMet_12 rfl (lv_at hl 2 rfl) ?_
    refine nr_iconst hx hb 2 d_M_areMet_13 (by decide) ?_
    refine nr_calli (va_runV (As := [.ref a, .int (nI d), .int (nI 2)]) (rest := []) ⟨hx, hb, hml, hown, hts⟩ (c_M_isMet l D am cm P G X a cS sh hP0 hG0 hX0 hsh d 2 (by omega) (by omega)) ⟨callB_of 3 hts (gTB q_M_isMet) rfl rfl rfl (htb _ q4) (htb _ q717) hd_M_isMet ⟨Nat.le_of_ble_eq_true rfl, Nat.le_of_ble_eq_true rfl⟩, (htb _ q719), (htb _ sel_M_isMet)⟩ ⟨ro_blind, va_recv (hK.sub (tys' := []) [] rfl) hP (ci := 3) (q0 := 0) rfl rfl, ro_pre hN (hP.sub (ws' := (wMS am cm P G X a cS sh)) [0, 1, 2, 3, 4, 5, 6, 7, 8, 9, 10, 11, 12, 13, 14, 15] rfl) (hK.sub (tys' := (tMS cm cS)) [0, 1, 2, 3, 4, 5, 6, 7, 8, 9, 10, 11, 12, 13, 14] rfl)⟩ rfl rfl hl.1 rfl (lv_room (Nat.le_of_ble_eq_true rfl)) d_M_areMet_14 ⟨Nat.le_of_ble_eq_true rfl, Nat.le_of_ble_eq_true rfl⟩) (fun r_2 hr_2 => ?_)
    subst hr_2
    refine nr_if_eq (tgt := 34) hx hb b01_lt d_M_areMet_17 (by decide) (fun c_17 => ?_) (fun c_17 => ?_)
    · refine nr_iconst hx hb 0 d_M_areMet_34 (by decide) ?_
      exact W.zret (v := (nI 0)) hx hb hr rfl (fun t ht hW => ⟨_, rfl, by rw [if_neg (show ¬ needUnmet P sh d = 0 by simp [needUnmet, nu, b01_nz c_7, b01_f c_17])], ht⟩) (fun q h => by cases h) d_M_areMet_35
    · refine lv_aload_n hx hb d_M_areMet_20 rfl (lv_at hl 0 rfl) ?_
      refine lv_aload_n hx hb d_M_areMet_21 rfl (lv_at hl 1 rfl) ?_
      refine lv_iload_n hx hb d_M_areMet_22 rfl (lv_at hl 2 rfl) ?_
      refine nr_iconst hx hb 3 d_M_areMet_23 (by decide) ?_
      refine nr_calli (va_runV (As := [.ref a, .int (nI d), .int (nI 3)]) (rest := []) ⟨hx, hb, hml, hown, hts⟩ (c_M_isMet l D am cm P G X a cS sh hP0 hG0 hX0 hsh d 3 (by omega) (by omega)) ⟨callB_of 3 hts (gTB q_M_isMet) rfl rfl rfl (htb _ q4) (htb _ q717) hd_M_isMet ⟨Nat.le_of_ble_eq_true rfl, Nat.le_of_ble_eq_true rfl⟩, (htb _ q719), (htb _ sel_M_isMet)⟩ ⟨ro_blind, va_recv (hK.sub (tys' := []) [] rfl) hP (ci := 3) (q0 := 0) rfl rfl, ro_pre hN (hP.sub (ws' := (wMS am cm P G X a cS sh)) [0, 1, 2, 3, 4, 5, 6, 7, 8, 9, 10, 11, 12, 13, 14, 15] rfl) (hK.sub (tys' := (tMS cm cS)) [0, 1, 2, 3, 4, 5, 6, 7, 8, 9, 10, 11, 12, 13, 14] rfl)⟩ rfl rfl hl.1 rfl (lv_room (Nat.le_of_ble_eq_true rfl)) d_M_areMet_24 ⟨Nat.le_of_ble_eq_true rfl, Nat.le_of_ble_eq_true rfl⟩) (fun r_3 hr_3 => ?_)
      subst hr_3
      refine nr_if_eq (tgt := 34) hx hb b01_lt d_M_areMet_27 (by decide) (fun c_27 => ?_) (fun c_27 => ?_)
      · refine nr_iconst hx hb 0 d_M_areMet_34 (by decide) ?_
        exact W.zret (v := (nI 0)) hx hb hr rfl (fun t ht hW => ⟨_, rfl, by rw [if_neg (show ¬ needUnmet P sh d = 0 by simp [needUnmet, nu, b01_nz c_7, b01_nz c_17, b01_f c_27])], ht⟩) (fun q h => by cases h) d_M_areMet_35
      · refine nr_iconst hx hb 1 d_M_areMet_30 (by decide) ?_
        refine lv_goto (tgt := 35) hx hb d_M_areMet_31 (by decide) ?_
        exact W.zret (v := (nI 1)) hx hb hr rfl (fun t ht hW => ⟨_, rfl, by rw [if_pos (show needUnmet P sh d = 0 by simp [needUnmet, nu, b01_nz c_7, b01_nz c_17, b01_nz c_27])], ht⟩) (fun q h => by cases h) d_M_areMet_35
set_option maxHeartbeats 4000000 in
set_option maxRecDepth 100000 in
theorem c_M_unmetTo (l : Launch) (D : va_G) (am : Nat → Nat) (cm : Nat → ClassId) (P G X : Nat → Nat → Nat) (a : Nat) (cS : ClassId) (sh : Nat → Nat) (hP0 : okP P) (hG0 : okG G) (hX0 : okX X) (hsh : ∀ k, sh k ≤ 3) (pl : Nat) (hpl : pl < 1000) : Met l y_M_unmetTo w_M_unmetTo { frames := 0, cells := 0, slots := 0, locals := 0 } (ro_P [.ref (am 0), .ref a, .int (nI pl)] D (wMS am cm P G X a cS sh) (tMS cm cS)) (vp_Si (fun r => r = nI (utM P X sh pl))) 0 0 (fun _ => False) := by
  refine Met.ofW (cc := b_M_unmetTo) (maxL := 6) (ret := (some .int)) (by decide) rfl ?_
  intro p e s m args below meth c s₁ B hml hv
  obtain ⟨rfl, hN, hP, hK⟩ := hv
  have hx := B.exec
  have hb := B.bytes
  have hr := B.returns
  have hts := atoms_spec (ws := w_M_unmetTo) B.pre
  have htb : ∀ w ∈ TBG, w.before [.ref (am 0), .ref a, .int (nI pl)].toArray s = true := fun w h => hts w (List.mem_cons_of_mem _ h)
  have hown : s.vm.findClass R_M = some m.cls := findClass_of_methodNamed B.named
  have hlocks := B.notSynchronized
  have hl := lv_entry ([.ref (am 0), .ref a, .int (nI pl)]) (n := 6) (Nat.le_of_ble_eq_true rfl)
  rw [lg_entry_eq]
  generalize (lg_sl ([.ref (am 0), .ref a, .int (nI pl)]) ++ List.replicate (6 - (lg_sl ([.ref (am 0), .ref a, .int (nI pl)])).length) Slot.unset).toArray = ls at hl ⊢
  have hl : lv_has ls 6 [(0, .ref (am 0)), (1, .ref a), (2, .int (nI pl))] := hl
  obtain ⟨h00, h01, h02, h03, h04, h05, hp1, hp2, hp3, hp4, hp5, hp6⟩ := id hP0
  obtain ⟨k00, k01, hg1, hg2⟩ := id hG0
  obtain ⟨x00, x01, x02, x03, hx1, hx2, hx3, hx4, hx5, hx6, hx7⟩ := id hX0
  refine nr_iconst hx hb 0 d_M_unmetTo_0 (by decide) ?_
  refine lv_istore_n (lv' := [(3, .int (nI 0)), (0, .ref (am 0)), (1, .ref a), (2, .int (nI pl))]) hx hb d_M_unmetTo_1 rfl hl (by decide) rfl (fun ls hl => ?_)
  refine nr_iconst hx hb 0 d_M_unmetTo_2 (by decide) ?_
  refine lv_istore (lv' := [(4, .int (nI 0)), (3, .int (nI 0)), (0, .ref (am 0)), (1, .ref a), (2, .int (nI pl))]) hx hb d_M_unmetTo_3 hl (by decide) rfl (fun ls hl => ?_)
  replace hl : ∃ k w acc : Nat, (w + k = P 0 5) ∧ (utl P X sh pl k w acc = utM P X sh pl) ∧ lv_has ls 6 [(0, .ref (am 0)), (1, .ref a), (2, .int (nI pl)), (3, .int (nI acc)), (4, .int (nI w))] := ⟨P 0 5, 0, 0, Nat.zero_add _, rfl, lv_sub hl [2, 3, 4, 1, 0] rfl⟩
  obtain ⟨k, w, acc, hk, hres, hl⟩ := hl
  induction k generalizing w acc ls with
  | zero =>
    refine lv_iload hx hb d_M_unmetTo_5 (lv_at hl 4 rfl) ?_
    refine lv_aload_n hx hb d_M_unmetTo_7 rfl (lv_at hl 0 rfl) ?_
    refine va_get (D := D) (ci := 3) (v := .int (nI (P 0 5))) (C := R_M) (T := F_M) (N := 26) hx hb htb u_M hown hK hP 0 rfl rfl 17 (by decide) (htb _ q596) (fun _ h9 => h9) rfl d_M_unmetTo_8 ?_
    refine nr_icmp_ge (tgt := 107) hx hb (by omega) (by omega) d_M_unmetTo_11 (by decide) (fun c_11 => ?_) (fun c_11 => by exfalso; omega)
    refine lv_iload_n hx hb d_M_unmetTo_107 rfl (lv_at hl 3 rfl) ?_
    exact W.iret (v := (nI acc)) hx hb hr (fun t ht hW => ⟨_, rfl, by rw [← hres, utl], ht⟩) (fun q h => by cases h) d_M_unmetTo_108
  | succ k ih_5 =>
    refine lv_iload hx hb d_M_unmetTo_5 (lv_at hl 4 rfl) ?_
    refine lv_aload_n hx hb d_M_unmetTo_7 rfl (lv_at hl 0 rfl) ?_
    refine va_get (D := D) (ci := 3) (v := .int (nI (P 0 5))) (C := R_M) (T := F_M) (N := 26) hx hb htb u_M hown hK hP 0 rfl rfl 17 (by decide) (htb _ q596) (fun _ h9 => h9) rfl d_M_unmetTo_8 ?_
    refine nr_icmp_ge (tgt := 107) hx hb (by omega) (by omega) d_M_unmetTo_11 (by decide) (fun c_11 => by exfalso; omega) (fun c_11 => ?_)
    refine lv_aload_n hx hb d_M_unmetTo_14 rfl (lv_at hl 1 rfl) ?_
    refine nr_bipush hx hb 6 d_M_unmetTo_15 (by decide) ?_
    refine lv_aload_n hx hb d_M_unmetTo_17 rfl (lv_at hl 0 rfl) ?_
    refine va_get (D := D) (ci := 3) (v := .ref (am 11)) (C := R_M) (T := F_M) (N := 26) hx hb htb u_M hown hK hP 0 rfl rfl 19 (by decide) (htb _ q598) (fun _ h9 => h9) rfl d_M_unmetTo_18 ?_
    refine lv_iload hx hb d_M_unmetTo_21 (lv_at hl 4 rfl) ?_
    refine nr_iald hx hb hK hP 11 10 rfl rfl (by omega) (by decide) d_M_unmetTo_23 ?_
    have hv_1 := hx4 w
    refine nr_imul hx hb d_M_unmetTo_24 ?_
    refine nr_top (y := nI ((X 4 w) * 6)) (congrArg nI (Nat.mul_comm _ _)) ?_
    refine lv_aload_n hx hb d_M_unmetTo_25 rfl (lv_at hl 0 rfl) ?_
    refine va_get (D := D) (ci := 3) (v := .ref (am 10)) (C := R_M) (T := F_M) (N := 26) hx hb htb u_M hown hK hP 0 rfl rfl 18 (by decide) (htb _ q597) (fun _ h9 => h9) rfl d_M_unmetTo_26 ?_
    refine lv_iload hx hb d_M_unmetTo_29 (lv_at hl 4 rfl) ?_
    refine nr_iald hx hb hK hP 10 9 rfl rfl (by omega) (by decide) d_M_unmetTo_31 ?_
    have hv_2 := hx3 w
    refine nr_iadd hx hb d_M_unmetTo_32 ?_
    refine nr_iald hx hb hK hP 15 14 rfl rfl (by omega) (by decide) d_M_unmetTo_33 ?_
    have hv_3 := hsh (((X 4 w) * 6) + (X 3 w))
    refine lv_aload_n hx hb d_M_unmetTo_34 rfl (lv_at hl 0 rfl) ?_
    refine va_get (D := D) (ci := 3) (v := .ref (am 12)) (C := R_M) (T := F_M) (N := 26) hx hb htb u_M hown hK hP 0 rfl rfl 20 (by decide) (htb _ q599) (fun _ h9 => h9) rfl d_M_unmetTo_35 ?_
    refine lv_iload hx hb d_M_unmetTo_38 (lv_at hl 4 rfl) ?_
    refine nr_iald hx hb hK hP 12 11 rfl rfl (by omega) (by decide) d_M_unmetTo_40 ?_
    have hv_4 := hx5 w
    refine nr_icmp_ne (tgt := 48) hx hb (by omega) (by omega) d_M_unmetTo_41 (by decide) (fun c_41 => ?_) (fun c_41 => ?_)
    · refine nr_iconst hx hb 0 d_M_unmetTo_48 (by decide) ?_
      refine lv_istore (lv' := [(5, .int (nI 0)), (0, .ref (am 0)), (1, .ref a), (2, .int (nI pl)), (3, .int (nI acc)), (4, .int (nI w))]) hx hb d_M_unmetTo_49 hl (by decide) rfl (fun ls hl => ?_)
      refine lv_iload_n hx hb d_M_unmetTo_51 rfl (lv_at hl 4 rfl) ?_
      refine lv_aload_n hx hb d_M_unmetTo_52 rfl (lv_at hl 1 rfl) ?_
      refine va_get (D := D) (ci := 3) (v := .ref (am 11)) (C := R_M) (T := F_M) (N := 26) hx hb htb u_M hown hK hP 0 rfl rfl 19 (by decide) (htb _ q598) (fun _ h9 => h9) rfl d_M_unmetTo_53 ?_
      refine lv_iload hx hb d_M_unmetTo_56 (lv_at hl 5 rfl) ?_
      refine nr_iald hx hb hK hP 11 10 rfl rfl (by omega) (by decide) d_M_unmetTo_58 ?_
      have hv_5 := hx4 w
      refine lv_aload_n hx hb d_M_unmetTo_59 rfl (lv_at hl 1 rfl) ?_
      refine va_get (D := D) (ci := 3) (v := .int (nI (P 0 0))) (C := R_M) (T := F_M) (N := 26) hx hb htb u_M hown hK hP 0 rfl rfl 1 (by decide) (htb _ q580) (fun _ h9 => h9) rfl d_M_unmetTo_60 ?_
      refine nr_imul hx hb d_M_unmetTo_63 ?_
      refine lv_aload_n hx hb d_M_unmetTo_64 rfl (lv_at hl 1 rfl) ?_
      refine va_get (D := D) (ci := 3) (v := .ref (am 10)) (C := R_M) (T := F_M) (N := 26) hx hb htb u_M hown hK hP 0 rfl rfl 18 (by decide) (htb _ q597) (fun _ h9 => h9) rfl d_M_unmetTo_65 ?_
      refine lv_iload hx hb d_M_unmetTo_68 (lv_at hl 5 rfl) ?_
      refine nr_iald hx hb hK hP 10 9 rfl rfl (by omega) (by decide) d_M_unmetTo_70 ?_
      have hv_6 := hx3 w
      refine nr_iadd hx hb d_M_unmetTo_71 ?_
      have hmul : X 4 w * P 0 0 ≤ 6 * 6 := Nat.mul_le_mul (hx4 w) h00
      refine lv_iload_n hx hb d_M_unmetTo_72 rfl (lv_at hl 3 rfl) ?_
      refine nr_icmp_gt (tgt := 98) hx hb (by omega) (by omega) d_M_unmetTo_73 (by decide) (fun c_73 => ?_) (fun c_73 => ?_)
      · refine nr_iconst hx hb 0 d_M_unmetTo_98 (by decide) ?_
        refine nr_iadd hx hb d_M_unmetTo_99 ?_
        refine lv_istore_n (lv' := [(3, .int (nI (acc + 0))), (5, .int (nI 0)), (0, .ref (am 0)), (1, .ref a), (2, .int (nI pl)), (4, .int (nI w))]) hx hb d_M_unmetTo_100 rfl hl (by decide) rfl (fun ls hl => ?_)
        refine nr_iinc (k := 5) (lv' := [(4, .int (nI (w + 1))), (3, .int (nI (acc + 0))), (5, .int (nI 0)), (0, .ref (am 0)), (1, .ref a), (2, .int (nI pl))]) hx hb d_M_unmetTo_101 hl rfl (by decide) rfl (fun ls hl => ?_)
        refine lv_goto (tgt := 5) hx hb d_M_unmetTo_104 (by decide) ?_
        exact ih_5 _ _ _ (by omega) (by rw [← hres, utl, if_neg (fun h => absurd h.1 (by omega))]) (lv_sub hl [3, 4, 5, 1, 0] rfl)
      · refine lv_iload hx hb d_M_unmetTo_76 (lv_at hl 0 rfl) ?_
        refine lv_aload_n hx hb d_M_unmetTo_78 rfl (lv_at hl 1 rfl) ?_
        refine va_get (D := D) (ci := 3) (v := .ref (am 13)) (C := R_M) (T := F_M) (N := 26) hx hb htb u_M hown hK hP 0 rfl rfl 21 (by decide) (htb _ q600) (fun _ h9 => h9) rfl d_M_unmetTo_79 ?_
        refine lv_iload hx hb d_M_unmetTo_82 (lv_at hl 5 rfl) ?_
        refine nr_zald hx hb hK hP 13 12 rfl rfl (by omega) (by decide) d_M_unmetTo_84 ?_
        have hv_7 := hx6 w
        refine nr_icmp_eq (tgt := 98) hx hb (by omega) (by omega) d_M_unmetTo_85 (by decide) (fun c_85 => ?_) (fun c_85 => ?_)
        · refine nr_iconst hx hb 0 d_M_unmetTo_98 (by decide) ?_
          refine nr_iadd hx hb d_M_unmetTo_99 ?_
          refine lv_istore_n (lv' := [(3, .int (nI (acc + 0))), (5, .int (nI 0)), (0, .ref (am 0)), (1, .ref a), (2, .int (nI pl)), (4, .int (nI w))]) hx hb d_M_unmetTo_100 rfl hl (by decide) rfl (fun ls hl => ?_)
          refine nr_iinc (k := 5) (lv' := [(4, .int (nI (w + 1))), (3, .int (nI (acc + 0))), (5, .int (nI 0)), (0, .ref (am 0)), (1, .ref a), (2, .int (nI pl))]) hx hb d_M_unmetTo_101 hl rfl (by decide) rfl (fun ls hl => ?_)
          refine lv_goto (tgt := 5) hx hb d_M_unmetTo_104 (by decide) ?_
          exact ih_5 _ _ _ (by omega) (by rw [← hres, utl, if_neg (fun h => h.2 (by rw [if_neg c_41]; exact c_85))]) (lv_sub hl [3, 4, 5, 1, 0] rfl)
        · refine lv_aload_n hx hb d_M_unmetTo_88 rfl (lv_at hl 1 rfl) ?_
          refine va_get (D := D) (ci := 3) (v := .ref (am 14)) (C := R_M) (T := F_M) (N := 26) hx hb htb u_M hown hK hP 0 rfl rfl 22 (by decide) (htb _ q601) (fun _ h9 => h9) rfl d_M_unmetTo_89 ?_
          refine lv_iload hx hb d_M_unmetTo_92 (lv_at hl 5 rfl) ?_
          refine nr_iald hx hb hK hP 14 13 rfl rfl (by omega) (by decide) d_M_unmetTo_94 ?_
          have hv_8 := hx7 w
          refine lv_goto (tgt := 99) hx hb d_M_unmetTo_95 (by decide) ?_
          refine nr_iadd hx hb d_M_unmetTo_99 ?_
          refine lv_istore_n (lv' := [(3, .int (nI (acc + (X 7 w)))), (5, .int (nI 0)), (0, .ref (am 0)), (1, .ref a), (2, .int (nI pl)), (4, .int (nI w))]) hx hb d_M_unmetTo_100 rfl hl (by decide) rfl (fun ls hl => ?_)
          refine nr_iinc (k := 5) (lv' := [(4, .int (nI (w + 1))), (3, .int (nI (acc + (X 7 w)))), (5, .int (nI 0)), (0, .ref (am 0)), (1, .ref a), (2, .int (nI pl))]) hx hb d_M_unmetTo_101 hl rfl (by decide) rfl (fun ls hl => ?_)
          refine lv_goto (tgt := 5) hx hb d_M_unmetTo_104 (by decide) ?_
          exact ih_5 _ _ _ (by omega) (by rw [← hres, utl, if_pos ⟨c_73, by rw [if_neg c_41]; exact c_85⟩]) (lv_sub hl [3, 4, 5, 1, 0] rfl)
    · refine nr_iconst hx hb 1 d_M_unmetTo_44 (by decide) ?_
      refine lv_goto (tgt := 49) hx hb d_M_unmetTo_45 (by decide) ?_
      refine lv_istore (lv' := [(5, .int (nI 1)), (0, .ref (am 0)), (1, .ref a), (2, .int (nI pl)), (3, .int (nI acc)), (4, .int (nI w))]) hx hb d_M_unmetTo_49 hl (by decide) rfl (fun ls hl => ?_)
      refine lv_iload_n hx hb d_M_unmetTo_51 rfl (lv_at hl 4 rfl) ?_
      refine lv_aload_n hx hb d_M_unmetTo_52 rfl (lv_at hl 1 rfl) ?_
      refine va_get (D := D) (ci := 3) (v := .ref (am 11)) (C := R_M) (T := F_M) (N := 26) hx hb htb u_M hown hK hP 0 rfl rfl 19 (by decide) (htb _ q598) (fun _ h9 => h9) rfl d_M_unmetTo_53 ?_
      refine lv_iload hx hb d_M_unmetTo_56 (lv_at hl 5 rfl) ?_
      refine nr_iald hx hb hK hP 11 10 rfl rfl (by omega) (by decide) d_M_unmetTo_58 ?_
      have hv_9 := hx4 w
      refine lv_aload_n hx hb d_M_unmetTo_59 rfl (lv_at hl 1 rfl) ?_
      refine va_get (D := D) (ci := 3) (v := .int (nI (P 0 0))) (C := R_M) (T := F_M) (N := 26) hx hb htb u_M hown hK hP 0 rfl rfl 1 (by decide) (htb _ q580) (fun _ h9 => h9) rfl d_M_unmetTo_60 ?_
      refine nr_imul hx hb d_M_unmetTo_63 ?_
      refine lv_aload_n hx hb d_M_unmetTo_64 rfl (lv_at hl 1 rfl) ?_
      refine va_get (D := D) (ci := 3) (v := .ref (am 10)) (C := R_M) (T := F_M) (N := 26) hx hb htb u_M hown hK hP 0 rfl rfl 18 (by decide) (htb _ q597) (fun _ h9 => h9) rfl d_M_unmetTo_65 ?_
      refine lv_iload hx hb d_M_unmetTo_68 (lv_at hl 5 rfl) ?_
      refine nr_iald hx hb hK hP 10 9 rfl rfl (by omega) (by decide) d_M_unmetTo_70 ?_
      have hv_10 := hx3 w
      refine nr_iadd hx hb d_M_unmetTo_71 ?_
      have hmul : X 4 w * P 0 0 ≤ 6 * 6 := Nat.mul_le_mul (hx4 w) h00
      refine lv_iload_n hx hb d_M_unmetTo_72 rfl (lv_at hl 3 rfl) ?_
      refine nr_icmp_gt (tgt := 98) hx hb (by omega) (by omega) d_M_unmetTo_73 (by decide) (fun c_73 => ?_) (fun c_73 => ?_)
      · refine nr_iconst hx hb 0 d_M_unmetTo_98 (by decide) ?_
        refine nr_iadd hx hb d_M_unmetTo_99 ?_
        refine lv_istore_n (lv' := [(3, .int (nI (acc + 0))), (5, .int (nI 1)), (0, .ref (am 0)), (1, .ref a), (2, .int (nI pl)), (4, .int (nI w))]) hx hb d_M_unmetTo_100 rfl hl (by decide) rfl (fun ls hl => ?_)
        refine nr_iinc (k := 5) (lv' := [(4, .int (nI (w + 1))), (3, .int (nI (acc + 0))), (5, .int (nI 1)), (0, .ref (am 0)), (1, .ref a), (2, .int (nI pl))]) hx hb d_M_unmetTo_101 hl rfl (by decide) rfl (fun ls hl => ?_)
        refine lv_goto (tgt := 5) hx hb d_M_unmetTo_104 (by decide) ?_
        exact ih_5 _ _ _ (by omega) (by rw [← hres, utl, if_neg (fun h => absurd h.1 (by omega))]) (lv_sub hl [3, 4, 5, 1, 0] rfl)
      · refine lv_iload hx hb d_M_unmetTo_76 (lv_at hl 0 rfl) ?_
        refine lv_aload_n hx hb d_M_unmetTo_78 rfl (lv_at hl 1 rfl) ?_
        refine va_get (D := D) (ci := 3) (v := .ref (am 13)) (C := R_M) (T := F_M) (N := 26) hx hb htb u_M hown hK hP 0 rfl rfl 21 (by decide) (htb _ q600) (fun _ h9 => h9) rfl d_M_unmetTo_79 ?_
        refine lv_iload hx hb d_M_unmetTo_82 (lv_at hl 5 rfl) ?_
        refine nr_zald hx hb hK hP 13 12 rfl rfl (by omega) (by decide) d_M_unmetTo_84 ?_
        have hv_11 := hx6 w
        refine nr_icmp_eq (tgt := 98) hx hb (by omega) (by omega) d_M_unmetTo_85 (by decide) (fun c_85 => ?_) (fun c_85 => ?_)
        · refine nr_iconst hx hb 0 d_M_unmetTo_98 (by decide) ?_
          refine nr_iadd hx hb d_M_unmetTo_99 ?_
          refine lv_istore_n (lv' := [(3, .int (nI (acc + 0))), (5, .int (nI 1)), (0, .ref (am 0)), (1, .ref a), (2, .int (nI pl)), (4, .int (nI w))]) hx hb d_M_unmetTo_100 rfl hl (by decide) rfl (fun ls hl => ?_)
          refine nr_iinc (k := 5) (lv' := [(4, .int (nI (w + 1))), (3, .int (nI (acc + 0))), (5, .int (nI 1)), (0, .ref (am 0)), (1, .ref a), (2, .int (nI pl))]) hx hb d_M_unmetTo_101 hl rfl (by decide) rfl (fun ls hl => ?_)
          refine lv_goto (tgt := 5) hx hb d_M_unmetTo_104 (by decide) ?_
          exact ih_5 _ _ _ (by omega) (by rw [← hres, utl, if_neg (fun h => h.2 (by rw [if_pos c_41]; exact c_85))]) (lv_sub hl [3, 4, 5, 1, 0] rfl)
        · refine lv_aload_n hx hb d_M_unmetTo_88 rfl (lv_at hl 1 rfl) ?_
          refine va_get (D := D) (ci := 3) (v := .ref (am 14)) (C := R_M) (T := F_M) (N := 26) hx hb htb u_M hown hK hP 0 rfl rfl 22 (by decide) (htb _ q601) (fun _ h9 => h9) rfl d_M_unmetTo_89 ?_
          refine lv_iload hx hb d_M_unmetTo_92 (lv_at hl 5 rfl) ?_
          refine nr_iald hx hb hK hP 14 13 rfl rfl (by omega) (by decide) d_M_unmetTo_94 ?_
          have hv_12 := hx7 w
          refine lv_goto (tgt := 99) hx hb d_M_unmetTo_95 (by decide) ?_
          refine nr_iadd hx hb d_M_unmetTo_99 ?_
          refine lv_istore_n (lv' := [(3, .int (nI (acc + (X 7 w)))), (5, .int (nI 1)), (0, .ref (am 0)), (1, .ref a), (2, .int (nI pl)), (4, .int (nI w))]) hx hb d_M_unmetTo_100 rfl hl (by decide) rfl (fun ls hl => ?_)
          refine nr_iinc (k := 5) (lv' := [(4, .int (nI (w + 1))), (3, .int (nI (acc + (X 7 w)))), (5, .int (nI 1)), (0, .ref (am 0)), (1, .ref a), (2, .int (nI pl))]) hx hb d_M_unmetTo_101 hl rfl (by decide) rfl (fun ls hl => ?_)
          refine lv_goto (tgt := 5) hx hb d_M_unmetTo_104 (by decide) ?_
          exact ih_5 _ _ _ (by omega) (by rw [← hres, utl, if_pos ⟨c_73, by rw [if_pos c_41]; exact c_85⟩]) (lv_sub hl [3, 4, 5, 1, 0] rfl)

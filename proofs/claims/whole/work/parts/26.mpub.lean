def thrC (o t1 t2 f : Nat) : Nat := if o ≠ 0 then 1 else if t1 ≠ 0 then 2 else if t2 ≠ 0 then 3 else if f ≠ 0 then 4 else 0
theorem in_n {a lo hi : Nat} (h1 : lo ≤ a) (h2 : a ≤ hi) (h : hi < 2147483648) : decide (nI lo ≤ nI a ∧ nI a ≤ nI hi) = true := decide_eq_true ⟨nI_le h1 (by omega), nI_le h2 (by omega)⟩
theorem inR_n {a n : Nat} (h1 : a < n) (h : n < 1000) : inR (nI a) n = true := decide_eq_true (by rw [nI_toInt (by omega)]; omega)
set_option maxHeartbeats 4000000 in
set_option maxRecDepth 100000 in
theorem c_M_throwing (l : Launch) (D : va_G) (am : Nat → Nat) (cm : Nat → ClassId) (P G X : Nat → Nat → Nat) (o t1 t2 f : Nat) (ho : o ≤ 1) (ht1 : t1 ≤ 1) (ht2 : t2 ≤ 1) (hf : f ≤ 1) (sz : Nat) : Met l y_M_throwing w_M_throwing { frames := 0, cells := 0, slots := 0, locals := 0 } (rw_P [.ref (am 0), .int (nI o), .int (nI t1), .int (nI t2), .int (nI f)] D (wM am cm P G X) (tM cm) sz) (rw_Qi (fun (r : Int32) (u : Unit) => r = nI (if thrC o t1 t2 f = 0 then 0 else 1)) D (wM am cm P G X) (fun u => wM am cm P G (up2 X 0 0 (thrC o t1 t2 f))) sz) 0 0 (va_A (wM am cm P G X) sz) := by
  refine Met.ofW (cc := b_M_throwing) (maxL := 5) (ret := (some .boolean)) (by decide) rfl ?_
  intro p e s m args below meth c s₁ B hml hv
  obtain ⟨rfl, hsz, hN, hP, hK, hD0⟩ := hv
  have hx := B.exec
  have hb := B.bytes
  have hr := B.returns
  have hts := atoms_spec (ws := w_M_throwing) B.pre
  have htb : ∀ w ∈ TBG, w.before [.ref (am 0), .int (nI o), .int (nI t1), .int (nI t2), .int (nI f)].toArray s = true := fun w h => hts w (List.mem_cons_of_mem _ h)
  have hown : s.vm.findClass R_M = some m.cls := findClass_of_methodNamed B.named
  have hlocks := B.notSynchronized
  subst hsz
  have hD := hD0.self (sz := s.heap.size)
  unfold rw_Qi
  generalize hAe : va_A (wM am cm P G X) s.heap.size = A at hD ⊢
  have hA : ∀ q : Nat, s.heap.size ≤ q → A q := fun q h => by rw [← hAe]; exact Or.inr h
  have hS : va_S A s.heap s.heap [] := va_S.rf
  have hl := lv_entry ([.ref (am 0), .int (nI o), .int (nI t1), .int (nI t2), .int (nI f)]) (n := 5) (Nat.le_of_ble_eq_true rfl)
  rw [lg_entry_eq]
  generalize (lg_sl ([.ref (am 0), .int (nI o), .int (nI t1), .int (nI t2), .int (nI f)]) ++ List.replicate (5 - (lg_sl ([.ref (am 0), .int (nI o), .int (nI t1), .int (nI t2), .int (nI f)])).length) Slot.unset).toArray = ls at hl ⊢
  have hl : lv_has ls 5 [(0, .ref (am 0)), (1, .int (nI o)), (2, .int (nI t1)), (3, .int (nI t2)), (4, .int (nI f))] := hl
  refine nr_start hP hS (fun H locs hP hS => ?_)
  refine lv_aload_n hx hb d_M_throwing_0 rfl (lv_at hl 0 rfl) ?_
  refine lv_iload_n hx hb d_M_throwing_1 rfl (lv_at hl 1 rfl) ?_
  refine nr_if_eq (tgt := 9) hx hb (by omega) d_M_throwing_2 (by decide) (fun c_2 => ?_) (fun c_2 => ?_)
  · refine lv_iload_n hx hb d_M_throwing_9 rfl (lv_at hl 2 rfl) ?_
    refine nr_if_eq (tgt := 17) hx hb (by omega) d_M_throwing_10 (by decide) (fun c_10 => ?_) (fun c_10 => ?_)
    · refine lv_iload_n hx hb d_M_throwing_17 rfl (lv_at hl 3 rfl) ?_
      refine nr_if_eq (tgt := 25) hx hb (by omega) d_M_throwing_18 (by decide) (fun c_18 => ?_) (fun c_18 => ?_)
      · refine lv_iload hx hb d_M_throwing_25 (lv_at hl 4 rfl) ?_
        refine nr_if_eq (tgt := 34) hx hb (by omega) d_M_throwing_27 (by decide) (fun c_27 => ?_) (fun c_27 => ?_)
        · refine nr_iconst hx hb 0 d_M_throwing_34 (by decide) ?_
          refine va_put (D := D) (ci := 3) (v := .int (nI 0)) (ty := .int) (C := R_M) (T := F_M) (N := 26) hx hb htb u_M t_M t_M_ok n_M hown hK hP hD hS 0 rfl rfl 0 (by decide) (htb _ q579) (fun _ h9 => h9) rfl (by decide +kernel) rfl rfl (Nat.le_of_ble_eq_true rfl) d_M_throwing_35 (fun H locs hP hD hS => ?_)
          replace hP : va_P D cls (wM am cm P G (up2 X 0 0 0)) H := hP
          replace hD : va_D A (wM am cm P G (up2 X 0 0 0)) := hD
          refine lv_aload_n hx hb d_M_throwing_38 rfl (lv_at hl 0 rfl) ?_
          refine va_get (D := D) (ci := 3) (v := .int (nI 0)) (C := R_M) (T := F_M) (N := 26) hx hb htb u_M hown hK hP 0 rfl rfl 0 (by decide) (htb _ q579) (fun _ h9 => h9) rfl d_M_throwing_39 ?_
          refine nr_if_le (tgt := 49) hx hb (by omega) d_M_throwing_42 (by decide) (fun c_42 => ?_) (fun c_42 => by exfalso; omega)
          refine nr_iconst hx hb 0 d_M_throwing_49 (by decide) ?_
          have hth : thrC o t1 t2 f = 0 := by unfold thrC; rw [if_neg (fun h => h c_2), if_neg (fun h => h c_10), if_neg (fun h => h c_18), if_neg (fun h => h c_27)]
          have hP : va_P D cls (wM am cm P G (up2 X 0 0 (thrC o t1 t2 f))) H := by rw [hth]; exact hP
          have hD : va_D A (wM am cm P G (up2 X 0 0 (thrC o t1 t2 f))) := by rw [hth]; exact hD
          exact W.zret (v := (nI 0)) hx hb hr rfl (fun t ht hW => ⟨⟨_, (), rfl, by rw [hth]; rfl, by rw [ht]; exact hP, hD⟩, hS.F ht⟩) hS.2.2 d_M_throwing_50
        · refine nr_iconst hx hb 4 d_M_throwing_30 (by decide) ?_
          refine lv_goto (tgt := 35) hx hb d_M_throwing_31 (by decide) ?_
          refine va_put (D := D) (ci := 3) (v := .int (nI 4)) (ty := .int) (C := R_M) (T := F_M) (N := 26) hx hb htb u_M t_M t_M_ok n_M hown hK hP hD hS 0 rfl rfl 0 (by decide) (htb _ q579) (fun _ h9 => h9) rfl (by decide +kernel) rfl rfl (Nat.le_of_ble_eq_true rfl) d_M_throwing_35 (fun H locs hP hD hS => ?_)
          replace hP : va_P D cls (wM am cm P G (up2 X 0 0 4)) H := hP
          replace hD : va_D A (wM am cm P G (up2 X 0 0 4)) := hD
          refine lv_aload_n hx hb d_M_throwing_38 rfl (lv_at hl 0 rfl) ?_
          refine va_get (D := D) (ci := 3) (v := .int (nI 4)) (C := R_M) (T := F_M) (N := 26) hx hb htb u_M hown hK hP 0 rfl rfl 0 (by decide) (htb _ q579) (fun _ h9 => h9) rfl d_M_throwing_39 ?_
          refine nr_if_le (tgt := 49) hx hb (by omega) d_M_throwing_42 (by decide) (fun c_42 => by exfalso; omega) (fun c_42 => ?_)
          refine nr_iconst hx hb 1 d_M_throwing_45 (by decide) ?_
          refine lv_goto (tgt := 50) hx hb d_M_throwing_46 (by decide) ?_
          have hth : thrC o t1 t2 f = 4 := by unfold thrC; rw [if_neg (fun h => h c_2), if_neg (fun h => h c_10), if_neg (fun h => h c_18), if_pos c_27]
          have hP : va_P D cls (wM am cm P G (up2 X 0 0 (thrC o t1 t2 f))) H := by rw [hth]; exact hP
          have hD : va_D A (wM am cm P G (up2 X 0 0 (thrC o t1 t2 f))) := by rw [hth]; exact hD
          exact W.zret (v := (nI 1)) hx hb hr rfl (fun t ht hW => ⟨⟨_, (), rfl, by rw [hth]; rfl, by rw [ht]; exact hP, hD⟩, hS.F ht⟩) hS.2.2 d_M_throwing_50
      · refine nr_iconst hx hb 3 d_M_throwing_21 (by decide) ?_
        refine lv_goto (tgt := 35) hx hb d_M_throwing_22 (by decide) ?_
        refine va_put (D := D) (ci := 3) (v := .int (nI 3)) (ty := .int) (C := R_M) (T := F_M) (N := 26) hx hb htb u_M t_M t_M_ok n_M hown hK hP hD hS 0 rfl rfl 0 (by decide) (htb _ q579) (fun _ h9 => h9) rfl (by decide +kernel) rfl rfl (Nat.le_of_ble_eq_true rfl) d_M_throwing_35 (fun H locs hP hD hS => ?_)
        replace hP : va_P D cls (wM am cm P G (up2 X 0 0 3)) H := hP
        replace hD : va_D A (wM am cm P G (up2 X 0 0 3)) := hD
        refine lv_aload_n hx hb d_M_throwing_38 rfl (lv_at hl 0 rfl) ?_
        refine va_get (D := D) (ci := 3) (v := .int (nI 3)) (C := R_M) (T := F_M) (N := 26) hx hb htb u_M hown hK hP 0 rfl rfl 0 (by decide) (htb _ q579) (fun _ h9 => h9) rfl d_M_throwing_39 ?_
        refine nr_if_le (tgt := 49) hx hb (by omega) d_M_throwing_42 (by decide) (fun c_42 => by exfalso; omega) (fun c_42 => ?_)
        refine nr_iconst hx hb 1 d_M_throwing_45 (by decide) ?_
        refine lv_goto (tgt := 50) hx hb d_M_throwing_46 (by decide) ?_
        have hth : thrC o t1 t2 f = 3 := by unfold thrC; rw [if_neg (fun h => h c_2), if_neg (fun h => h c_10), if_pos c_18]
        have hP : va_P D cls (wM am cm P G (up2 X 0 0 (thrC o t1 t2 f))) H := by rw [hth]; exact hP
        have hD : va_D A (wM am cm P G (up2 X 0 0 (thrC o t1 t2 f))) := by rw [hth]; exact hD
        exact W.zret (v := (nI 1)) hx hb hr rfl (fun t ht hW => ⟨⟨_, (), rfl, by rw [hth]; rfl, by rw [ht]; exact hP, hD⟩, hS.F ht⟩) hS.2.2 d_M_throwing_50
    · refine nr_iconst hx hb 2 d_M_throwing_13 (by decide) ?_
      refine lv_goto (tgt := 35) hx hb d_M_throwing_14 (by decide) ?_
      refine va_put (D := D) (ci := 3) (v := .int (nI 2)) (ty := .int) (C := R_M) (T := F_M) (N := 26) hx hb htb u_M t_M t_M_ok n_M hown hK hP hD hS 0 rfl rfl 0 (by decide) (htb _ q579) (fun _ h9 => h9) rfl (by decide +kernel) rfl rfl (Nat.le_of_ble_eq_true rfl) d_M_throwing_35 (fun H locs hP hD hS => ?_)
      replace hP : va_P D cls (wM am cm P G (up2 X 0 0 2)) H := hP
      replace hD : va_D A (wM am cm P G (up2 X 0 0 2)) := hD
      refine lv_aload_n hx hb d_M_throwing_38 rfl (lv_at hl 0 rfl) ?_
      refine va_get (D := D) (ci := 3) (v := .int (nI 2)) (C := R_M) (T := F_M) (N := 26) hx hb htb u_M hown hK hP 0 rfl rfl 0 (by decide) (htb _ q579) (fun _ h9 => h9) rfl d_M_throwing_39 ?_
      refine nr_if_le (tgt := 49) hx hb (by omega) d_M_throwing_42 (by decide) (fun c_42 => by exfalso; omega) (fun c_42 => ?_)
      refine nr_iconst hx hb 1 d_M_throwing_45 (by decide) ?_
      refine lv_goto (tgt := 50) hx hb d_M_throwing_46 (by decide) ?_
      have hth : thrC o t1 t2 f = 2 := by unfold thrC; rw [if_neg (fun h => h c_2), if_pos c_10]
      have hP : va_P D cls (wM am cm P G (up2 X 0 0 (thrC o t1 t2 f))) H := by rw [hth]; exact hP
      have hD : va_D A (wM am cm P G (up2 X 0 0 (thrC o t1 t2 f))) := by rw [hth]; exact hD
      exact W.zret (v := (nI 1)) hx hb hr rfl (fun t ht hW => ⟨⟨_, (), rfl, by rw [hth]; rfl, by rw [ht]; exact hP, hD⟩, hS.F ht⟩) hS.2.2 d_M_throwing_50
  · refine nr_iconst hx hb 1 d_M_throwing_5 (by decide) ?_
    refine lv_goto (tgt := 35) hx hb d_M_throwing_6 (by decide) ?_
    refine va_put (D := D) (ci := 3) (v := .int (nI 1)) (ty := .int) (C := R_M) (T := F_M) (N := 26) hx hb htb u_M t_M t_M_ok n_M hown hK hP hD hS 0 rfl rfl 0 (by decide) (htb _ q579) (fun _ h9 => h9) rfl (by decide +kernel) rfl rfl (Nat.le_of_ble_eq_true rfl) d_M_throwing_35 (fun H locs hP hD hS => ?_)
    replace hP : va_P D cls (wM am cm P G (up2 X 0 0 1)) H := hP
    replace hD : va_D A (wM am cm P G (up2 X 0 0 1)) := hD
    refine lv_aload_n hx hb d_M_throwing_38 rfl (lv_at hl 0 rfl) ?_
    refine va_get (D := D) (ci := 3) (v := .int (nI 1)) (C := R_M) (T := F_M) (N := 26) hx hb htb u_M hown hK hP 0 rfl rfl 0 (by decide) (htb _ q579) (fun _ h9 => h9) rfl d_M_throwing_39 ?_
    refine nr_if_le (tgt := 49) hx hb (by omega) d_M_throwing_42 (by decide) (fun c_42 => by exfalso; omega) (fun c_42 => ?_)
    refine nr_iconst hx hb 1 d_M_throwing_45 (by decide) ?_
    refine lv_goto (tgt := 50) hx hb d_M_throwing_46 (by decide) ?_
    have hth : thrC o t1 t2 f = 1 := by unfold thrC; rw [if_pos c_2]
    have hP : va_P D cls (wM am cm P G (up2 X 0 0 (thrC o t1 t2 f))) H := by rw [hth]; exact hP
    have hD : va_D A (wM am cm P G (up2 X 0 0 (thrC o t1 t2 f))) := by rw [hth]; exact hD
    exact W.zret (v := (nI 1)) hx hb hr rfl (fun t ht hW => ⟨⟨_, (), rfl, by rw [hth]; rfl, by rw [ht]; exact hP, hD⟩, hS.F ht⟩) hS.2.2 d_M_throwing_50
set_option maxHeartbeats 4000000 in
set_option maxRecDepth 100000 in
theorem c_M_thrown (l : Launch) (D : va_G) (am : Nat → Nat) (cm : Nat → ClassId) (P G X : Nat → Nat → Nat) : Met l y_M_thrown w_M_thrown { frames := 0, cells := 0, slots := 0, locals := 0 } (ro_P [.ref (am 0)] D (wM am cm P G X) (tM cm)) (vp_Si (fun r => r = nI (X 0 0))) 0 0 (fun _ => False) := by
  refine Met.ofW (cc := b_M_thrown) (maxL := 1) (ret := (some .int)) (by decide) rfl ?_
  intro p e s m args below meth c s₁ B hml hv
  obtain ⟨rfl, hN, hP, hK⟩ := hv
  have hx := B.exec
  have hb := B.bytes
  have hr := B.returns
  have hts := atoms_spec (ws := w_M_thrown) B.pre
  have htb : ∀ w ∈ TBG, w.before [.ref (am 0)].toArray s = true := fun w h => hts w (List.mem_cons_of_mem _ h)
  have hown : s.vm.findClass R_M = some m.cls := findClass_of_methodNamed B.named
  have hlocks := B.notSynchronized
  have hl := lv_entry ([.ref (am 0)]) (n := 1) (Nat.le_of_ble_eq_true rfl)
  rw [lg_entry_eq]
  generalize (lg_sl ([.ref (am 0)]) ++ List.replicate (1 - (lg_sl ([.ref (am 0)])).length) Slot.unset).toArray = ls at hl ⊢
  have hl : lv_has ls 1 [(0, .ref (am 0))] := hl
  refine lv_aload_n hx hb d_M_thrown_0 rfl (lv_at hl 0 rfl) ?_
  refine va_get (D := D) (ci := 3) (v := .int (nI (X 0 0))) (C := R_M) (T := F_M) (N := 26) hx hb htb u_M hown hK hP 0 rfl rfl 0 (by decide) (htb _ q579) (fun _ h9 => h9) rfl d_M_thrown_1 ?_
  exact W.iret (v := (nI (X 0 0))) hx hb hr (fun t ht hW => ⟨_, rfl, rfl, ht⟩) (fun q h => by cases h) d_M_thrown_4
set_option maxHeartbeats 4000000 in
set_option maxRecDepth 100000 in
theorem k_M_person (l : Launch) (D : va_G) (am : Nat → Nat) (cm : Nat → ClassId) (P G X : Nat → Nat → Nat) (hP0 : okP P) (hG0 : okG G) (hX0 : okX X) (x y : Nat) (hx15 : x ≤ 15) (hy10 : y ≤ 10000) (hn6 : P 0 0 < 6) (sz : Nat) : Met l y_M_person w_M_person { frames := 1, cells := 0, slots := 0, locals := 24 } (rw_P [.ref (am 0), .int (nI x), .int (nI y)] D (wM am cm P G X) (tM cm) sz) (rw_Qi (fun (r : Int32) (u : Unit) => r = nI (P 0 0)) D (wM am cm P G X) (fun u => wM am cm (up2 (up2 (up2 P 1 (P 0 0) x) 2 (P 0 0) y) 0 0 (P 0 0 + 1)) G (up2 X 0 0 0)) sz) 0 0 (va_A (wM am cm P G X) sz) := by
  refine Met.ofW (cc := b_M_person) (maxL := 3) (ret := (some .int)) (by decide) rfl ?_
  intro p e s m args below meth c s₁ B hml hv
  obtain ⟨rfl, hsz, hN, hP, hK, hD0⟩ := hv
  have hx := B.exec
  have hb := B.bytes
  have hr := B.returns
  have hts := atoms_spec (ws := w_M_person) B.pre
  have htb : ∀ w ∈ TBG, w.before [.ref (am 0), .int (nI x), .int (nI y)].toArray s = true := fun w h => hts w (List.mem_cons_of_mem _ h)
  have hown : s.vm.findClass R_M = some m.cls := findClass_of_methodNamed B.named
  have hlocks := B.notSynchronized
  subst hsz
  have hD := hD0.self (sz := s.heap.size)
  unfold rw_Qi
  generalize hAe : va_A (wM am cm P G X) s.heap.size = A at hD ⊢
  have hA : ∀ q : Nat, s.heap.size ≤ q → A q := fun q h => by rw [← hAe]; exact Or.inr h
  have hS : va_S A s.heap s.heap [] := va_S.rf
  have hl := lv_entry ([.ref (am 0), .int (nI x), .int (nI y)]) (n := 3) (Nat.le_of_ble_eq_true rfl)
  rw [lg_entry_eq]
  generalize (lg_sl ([.ref (am 0), .int (nI x), .int (nI y)]) ++ List.replicate (3 - (lg_sl ([.ref (am 0), .int (nI x), .int (nI y)])).length) Slot.unset).toArray = ls at hl ⊢
  have hl : lv_has ls 3 [(0, .ref (am 0)), (1, .int (nI x)), (2, .int (nI y))] := hl
  refine nr_start hP hS (fun H locs hP hS => ?_)
  obtain ⟨h00, h01, h02, h03, h04, h05, hp1, hp2, hp3, hp4, hp5, hp6⟩ := id hP0
  obtain ⟨k00, k01, hg1, hg2⟩ := id hG0
  obtain ⟨x00, x01, x02, x03, hx1, hx2, hx3, hx4, hx5, hx6, hx7⟩ := id hX0
  refine lv_aload_n hx hb d_M_person_0 rfl (lv_at hl 0 rfl) ?_
  refine lv_iload_n hx hb d_M_person_1 rfl (lv_at hl 1 rfl) ?_
  refine nr_iconst hx hb 0 d_M_person_2 (by decide) ?_
  refine nr_bipush hx hb 15 d_M_person_3 (by decide) ?_
  refine nr_calli (va_runS (As := [.int (nI x), .int (nI 0), .int (nI 15)]) (rest := [.ref (am 0)]) ⟨hx, hb, hml, hown, hts⟩ (c_M_in l D (nI x) (nI 0) (nI 15)) ⟨callB_of 3 hts (gTB q_M_in) rfl rfl rfl (htb _ q4) (htb _ q666) hd_M_in ⟨Nat.le_of_ble_eq_true rfl, Nat.le_of_ble_eq_true rfl⟩, (htb _ q667)⟩ ⟨ro_blind, ro_pre hN (hP.sub (ws' := []) [] rfl) (hK.sub (tys' := []) [] rfl)⟩ rfl rfl hl.1 rfl (lv_room (Nat.le_of_ble_eq_true rfl)) d_M_person_5 ⟨Nat.le_of_ble_eq_true rfl, Nat.le_of_ble_eq_true rfl⟩) (fun r_1 hr_1 => ?_)
  subst hr_1
  refine nr_top (y := nI 1) (by rw [in_n (by omega) hx15 (by omega)]; rfl) ?_
  refine nr_if_eq (tgt := 22) hx hb (by omega) d_M_person_8 (by decide) (fun c_8 => by exfalso; omega) (fun c_8 => ?_)
  refine lv_iload_n hx hb d_M_person_11 rfl (lv_at hl 2 rfl) ?_
  refine nr_iconst hx hb 0 d_M_person_12 (by decide) ?_
  refine nr_sipush hx hb 10000 d_M_person_13 (by decide) ?_
  refine nr_calli (va_runS (As := [.int (nI y), .int (nI 0), .int (nI 10000)]) (rest := [.ref (am 0)]) ⟨hx, hb, hml, hown, hts⟩ (c_M_in l D (nI y) (nI 0) (nI 10000)) ⟨callB_of 3 hts (gTB q_M_in) rfl rfl rfl (htb _ q4) (htb _ q666) hd_M_in ⟨Nat.le_of_ble_eq_true rfl, Nat.le_of_ble_eq_true rfl⟩, (htb _ q667)⟩ ⟨ro_blind, ro_pre hN (hP.sub (ws' := []) [] rfl) (hK.sub (tys' := []) [] rfl)⟩ rfl rfl hl.1 rfl (lv_room (Nat.le_of_ble_eq_true rfl)) d_M_person_16 ⟨Nat.le_of_ble_eq_true rfl, Nat.le_of_ble_eq_true rfl⟩) (fun r_2 hr_2 => ?_)
  subst hr_2
  refine nr_top (y := nI 1) (by rw [in_n (by omega) hy10 (by omega)]; rfl) ?_
  refine nr_if_ne (tgt := 26) hx hb (by omega) d_M_person_19 (by decide) (fun c_19 => ?_) (fun c_19 => by exfalso; omega)
  refine nr_iconst hx hb 0 d_M_person_26 (by decide) ?_
  refine lv_aload_n hx hb d_M_person_27 rfl (lv_at hl 0 rfl) ?_
  refine va_get (D := D) (ci := 3) (v := .int (nI (P 0 0))) (C := R_M) (T := F_M) (N := 26) hx hb htb u_M hown hK hP 0 rfl rfl 1 (by decide) (htb _ q580) (fun _ h9 => h9) rfl d_M_person_28 ?_
  refine nr_bipush hx hb 6 d_M_person_31 (by decide) ?_
  refine nr_icmp_ne (tgt := 40) hx hb (by omega) (by omega) d_M_person_33 (by decide) (fun c_33 => ?_) (fun c_33 => by exfalso; omega)
  refine nr_iconst hx hb 0 d_M_person_40 (by decide) ?_
  refine nr_iconst hx hb 0 d_M_person_41 (by decide) ?_
  refine nr_iconst hx hb 0 d_M_person_42 (by decide) ?_
  refine nr_callwi (wr := ([] : va_W)) (va_runV (As := [.int (nI 0), .int (nI 0), .int (nI 0), .int (nI 0)]) (rest := []) ⟨hx, hb, hml, hown, hts⟩ (c_M_throwing l D am cm P G X 0 0 0 0 (by decide) (by decide) (by decide) (by decide) H.size) ⟨callB_of 4 hts (gTB q_M_throwing) rfl rfl rfl (htb _ q4) (htb _ q669) hd_M_throwing ⟨Nat.le_of_ble_eq_true rfl, Nat.le_of_ble_eq_true rfl⟩, (htb _ q671), (htb _ sel_M_throwing)⟩ ⟨rw_blind, va_recv (hK.sub (tys' := []) [] rfl) hP (ci := 3) (q0 := 0) rfl rfl, rw_pre hN (hP.sub (ws' := (wM am cm P G X)) [0, 1, 2, 3, 4, 5, 6, 7, 8, 9, 10, 11, 12, 13, 14] rfl) (hK.sub (tys' := (tM cm)) [0, 1, 2, 3, 4, 5, 6, 7, 8, 9, 10, 11, 12, 13] rfl) (hD.sub (ws' := (wM am cm P G X)) [0, 1, 2, 3, 4, 5, 6, 7, 8, 9, 10, 11, 12, 13, 14] (by decide) rfl)⟩ rfl rfl hl.1 rfl (lv_room (Nat.le_of_ble_eq_true rfl)) d_M_person_43 ⟨Nat.le_of_ble_eq_true rfl, Nat.le_of_ble_eq_true rfl⟩) hP hD hS hA [0, 1, 2, 3, 4, 5, 6, 7, 8, 9, 10, 11, 12, 13, 14] [] rfl rfl (by decide) (by decide) (fun r_3 u_3 H locs hr_3 hP hD hS => ?_)
  subst hr_3
  replace hP := hP.sub (ws' := wM am cm P G (up2 X 0 0 0)) [0, 1, 2, 3, 4, 5, 6, 7, 8, 9, 10, 11, 12, 13, 14] rfl
  replace hD := hD.sub (ws' := wM am cm P G (up2 X 0 0 0)) [0, 1, 2, 3, 4, 5, 6, 7, 8, 9, 10, 11, 12, 13, 14] (by decide) rfl
  refine nr_top (y := nI 0) rfl ?_
  refine nr_if_eq (tgt := 51) hx hb (by omega) d_M_person_46 (by decide) (fun c_46 => ?_) (fun c_46 => by exfalso; omega)
  refine lv_aload_n hx hb d_M_person_51 rfl (lv_at hl 0 rfl) ?_
  refine va_get (D := D) (ci := 3) (v := .ref (am 1)) (C := R_M) (T := F_M) (N := 26) hx hb htb u_M hown hK hP 0 rfl rfl 4 (by decide) (htb _ q583) (fun _ h9 => h9) rfl d_M_person_52 ?_
  refine lv_aload_n hx hb d_M_person_55 rfl (lv_at hl 0 rfl) ?_
  refine va_get (D := D) (ci := 3) (v := .int (nI (P 0 0))) (C := R_M) (T := F_M) (N := 26) hx hb htb u_M hown hK hP 0 rfl rfl 1 (by decide) (htb _ q580) (fun _ h9 => h9) rfl d_M_person_56 ?_
  refine lv_iload_n hx hb d_M_person_59 rfl (lv_at hl 1 rfl) ?_
  refine nr_iast hx hb hK hP hD hS 1 0 rfl rfl (by omega) (by decide) d_M_person_60 (fun H locs hP hD hS => ?_)
  replace hP : va_P D cls (wM am cm (up2 P 1 (P 0 0) x) G (up2 X 0 0 0)) H := hP
  replace hD : va_D A (wM am cm (up2 P 1 (P 0 0) x) G (up2 X 0 0 0)) := hD
  refine lv_aload_n hx hb d_M_person_61 rfl (lv_at hl 0 rfl) ?_
  refine va_get (D := D) (ci := 3) (v := .ref (am 2)) (C := R_M) (T := F_M) (N := 26) hx hb htb u_M hown hK hP 0 rfl rfl 5 (by decide) (htb _ q584) (fun _ h9 => h9) rfl d_M_person_62 ?_
  refine lv_aload_n hx hb d_M_person_65 rfl (lv_at hl 0 rfl) ?_
  refine va_get (D := D) (ci := 3) (v := .int (nI (P 0 0))) (C := R_M) (T := F_M) (N := 26) hx hb htb u_M hown hK hP 0 rfl rfl 1 (by decide) (htb _ q580) (fun _ h9 => h9) rfl d_M_person_66 ?_
  refine lv_iload_n hx hb d_M_person_69 rfl (lv_at hl 2 rfl) ?_
  refine nr_iast hx hb hK hP hD hS 2 1 rfl rfl (by omega) (by decide) d_M_person_70 (fun H locs hP hD hS => ?_)
  replace hP : va_P D cls (wM am cm (up2 (up2 P 1 (P 0 0) x) 2 (P 0 0) y) G (up2 X 0 0 0)) H := hP
  replace hD : va_D A (wM am cm (up2 (up2 P 1 (P 0 0) x) 2 (P 0 0) y) G (up2 X 0 0 0)) := hD
  refine lv_aload_n hx hb d_M_person_71 rfl (lv_at hl 0 rfl) ?_
  refine lv_dup hx hb d_M_person_72 rfl ?_
  refine va_get (D := D) (ci := 3) (v := .int (nI (P 0 0))) (C := R_M) (T := F_M) (N := 26) hx hb htb u_M hown hK hP 0 rfl rfl 1 (by decide) (htb _ q580) (fun _ h9 => h9) rfl d_M_person_73 ?_
  refine nr_iconst hx hb 1 d_M_person_76 (by decide) ?_
  refine nr_iadd hx hb d_M_person_77 ?_
  refine va_put (D := D) (ci := 3) (v := .int (nI ((P 0 0) + 1))) (ty := .int) (C := R_M) (T := F_M) (N := 26) hx hb htb u_M t_M t_M_ok n_M hown hK hP hD hS 0 rfl rfl 1 (by decide) (htb _ q580) (fun _ h9 => h9) rfl (by decide +kernel) rfl rfl (Nat.le_of_ble_eq_true rfl) d_M_person_78 (fun H locs hP hD hS => ?_)
  replace hP : va_P D cls (wM am cm (up2 (up2 (up2 P 1 (P 0 0) x) 2 (P 0 0) y) 0 0 ((P 0 0) + 1)) G (up2 X 0 0 0)) H := hP
  replace hD : va_D A (wM am cm (up2 (up2 (up2 P 1 (P 0 0) x) 2 (P 0 0) y) 0 0 ((P 0 0) + 1)) G (up2 X 0 0 0)) := hD
  refine lv_aload_n hx hb d_M_person_81 rfl (lv_at hl 0 rfl) ?_
  refine va_get (D := D) (ci := 3) (v := .int (nI ((P 0 0) + 1))) (C := R_M) (T := F_M) (N := 26) hx hb htb u_M hown hK hP 0 rfl rfl 1 (by decide) (htb _ q580) (fun _ h9 => h9) rfl d_M_person_82 ?_
  refine nr_iconst hx hb 1 d_M_person_85 (by decide) ?_
  refine nr_isub hx hb (by omega) d_M_person_86 ?_
  exact W.iret (v := (nI (((P 0 0) + 1) - 1))) hx hb hr (fun t ht hW => ⟨⟨_, (), rfl, congrArg nI (by omega), by rw [ht]; exact hP, hD⟩, hS.F ht⟩) hS.2.2 d_M_person_87
set_option maxHeartbeats 4000000 in
set_option maxRecDepth 100000 in
theorem k_M_need (l : Launch) (D : va_G) (am : Nat → Nat) (cm : Nat → ClassId) (P G X : Nat → Nat → Nat) (hP0 : okP P) (hG0 : okG G) (hX0 : okX X) (d sf x y : Nat) (hd : d < P 0 1) (hs1 : 1 ≤ sf) (hs3 : sf ≤ 3) (hxs : x ≤ 6) (hy15 : y ≤ 15) (sz : Nat) : Met l y_M_need w_M_need { frames := 2, cells := 0, slots := 0, locals := 43 } (rw_P [.ref (am 0), .int (nI d), .int (nI sf), .int (nI x), .int (nI y)] D (wM am cm P G X) (tM cm) sz) (rw_Qv (fun u : Unit => True) D (wM am cm P G X) (fun u => wM am cm (up2 (up2 P 3 (d * 4 + sf) x) 4 (d * 4 + sf) y) G (up2 X 0 0 0)) sz) 0 0 (va_A (wM am cm P G X) sz) := by
  refine Met.ofW (cc := b_M_need) (maxL := 5) (ret := none) (by decide) rfl ?_
  intro p e s m args below meth c s₁ B hml hv
  obtain ⟨rfl, hsz, hN, hP, hK, hD0⟩ := hv
  have hx := B.exec
  have hb := B.bytes
  have hr := B.returns
  have hts := atoms_spec (ws := w_M_need) B.pre
  have htb : ∀ w ∈ TBG, w.before [.ref (am 0), .int (nI d), .int (nI sf), .int (nI x), .int (nI y)].toArray s = true := fun w h => hts w (List.mem_cons_of_mem _ h)
  have hown : s.vm.findClass R_M = some m.cls := findClass_of_methodNamed B.named
  have hlocks := B.notSynchronized
  subst hsz
  have hD := hD0.self (sz := s.heap.size)
  unfold rw_Qv
  generalize hAe : va_A (wM am cm P G X) s.heap.size = A at hD ⊢
  have hA : ∀ q : Nat, s.heap.size ≤ q → A q := fun q h => by rw [← hAe]; exact Or.inr h
  have hS : va_S A s.heap s.heap [] := va_S.rf
  have hl := lv_entry ([.ref (am 0), .int (nI d), .int (nI sf), .int (nI x), .int (nI y)]) (n := 5) (Nat.le_of_ble_eq_true rfl)
  rw [lg_entry_eq]
  generalize (lg_sl ([.ref (am 0), .int (nI d), .int (nI sf), .int (nI x), .int (nI y)]) ++ List.replicate (5 - (lg_sl ([.ref (am 0), .int (nI d), .int (nI sf), .int (nI x), .int (nI y)])).length) Slot.unset).toArray = ls at hl ⊢
  have hl : lv_has ls 5 [(0, .ref (am 0)), (1, .int (nI d)), (2, .int (nI sf)), (3, .int (nI x)), (4, .int (nI y))] := hl
  refine nr_start hP hS (fun H locs hP hS => ?_)
  obtain ⟨h00, h01, h02, h03, h04, h05, hp1, hp2, hp3, hp4, hp5, hp6⟩ := id hP0
  obtain ⟨k00, k01, hg1, hg2⟩ := id hG0
  obtain ⟨x00, x01, x02, x03, hx1, hx2, hx3, hx4, hx5, hx6, hx7⟩ := id hX0
  refine lv_aload_n hx hb d_M_need_0 rfl (lv_at hl 0 rfl) ?_
  refine lv_aload_n hx hb d_M_need_1 rfl (lv_at hl 0 rfl) ?_
  refine lv_iload_n hx hb d_M_need_2 rfl (lv_at hl 1 rfl) ?_
  refine nr_calli (va_runV (As := [.int (nI d)]) (rest := [.ref (am 0)]) ⟨hx, hb, hml, hown, hts⟩ (c_M_isDay l D am cm P G X (am 3) (cm 2) (G 1) hP0 hG0 hX0 hg1 (nI d)) ⟨callB_of 1 hts (gTB q_M_isDay) rfl rfl rfl (htb _ q4) (htb _ q681) hd_M_isDay ⟨Nat.le_of_ble_eq_true rfl, Nat.le_of_ble_eq_true rfl⟩, (htb _ q683), (htb _ sel_M_isDay)⟩ ⟨ro_blind, va_recv (hK.sub (tys' := []) [] rfl) hP (ci := 3) (q0 := 0) rfl rfl, ro_pre hN (hP.sub (ws' := (wMS am cm P G X (am 3) (cm 2) (G 1))) [0, 1, 2, 3, 4, 5, 6, 7, 8, 9, 10, 11, 12, 13, 14, 3] rfl) (hK.sub (tys' := (tMS cm (cm 2))) [0, 1, 2, 3, 4, 5, 6, 7, 8, 9, 10, 11, 12, 13, 2] rfl)⟩ rfl rfl hl.1 rfl (lv_room (Nat.le_of_ble_eq_true rfl)) d_M_need_3 ⟨Nat.le_of_ble_eq_true rfl, Nat.le_of_ble_eq_true rfl⟩) (fun r_1 hr_1 => ?_)
  subst hr_1
  refine nr_top (y := nI 1) (by rw [inR_n hd (by omega)]; rfl) ?_
  refine nr_if_eq (tgt := 18) hx hb (by omega) d_M_need_6 (by decide) (fun c_6 => by exfalso; omega) (fun c_6 => ?_)
  refine lv_iload_n hx hb d_M_need_9 rfl (lv_at hl 2 rfl) ?_
  refine nr_iconst hx hb 1 d_M_need_10 (by decide) ?_
  refine nr_iconst hx hb 3 d_M_need_11 (by decide) ?_
  refine nr_calli (va_runS (As := [.int (nI sf), .int (nI 1), .int (nI 3)]) (rest := [.ref (am 0)]) ⟨hx, hb, hml, hown, hts⟩ (c_M_in l D (nI sf) (nI 1) (nI 3)) ⟨callB_of 3 hts (gTB q_M_in) rfl rfl rfl (htb _ q4) (htb _ q666) hd_M_in ⟨Nat.le_of_ble_eq_true rfl, Nat.le_of_ble_eq_true rfl⟩, (htb _ q667)⟩ ⟨ro_blind, ro_pre hN (hP.sub (ws' := []) [] rfl) (hK.sub (tys' := []) [] rfl)⟩ rfl rfl hl.1 rfl (lv_room (Nat.le_of_ble_eq_true rfl)) d_M_need_12 ⟨Nat.le_of_ble_eq_true rfl, Nat.le_of_ble_eq_true rfl⟩) (fun r_2 hr_2 => ?_)
  subst hr_2
  refine nr_top (y := nI 1) (by rw [in_n hs1 hs3 (by omega)]; rfl) ?_
  refine nr_if_ne (tgt := 22) hx hb (by omega) d_M_need_15 (by decide) (fun c_15 => ?_) (fun c_15 => by exfalso; omega)
  refine nr_iconst hx hb 0 d_M_need_22 (by decide) ?_
  refine lv_iload_n hx hb d_M_need_23 rfl (lv_at hl 3 rfl) ?_
  refine nr_iconst hx hb 0 d_M_need_24 (by decide) ?_
  refine nr_bipush hx hb 6 d_M_need_25 (by decide) ?_
  refine nr_calli (va_runS (As := [.int (nI x), .int (nI 0), .int (nI 6)]) (rest := [.int (nI 0), .ref (am 0)]) ⟨hx, hb, hml, hown, hts⟩ (c_M_in l D (nI x) (nI 0) (nI 6)) ⟨callB_of 3 hts (gTB q_M_in) rfl rfl rfl (htb _ q4) (htb _ q666) hd_M_in ⟨Nat.le_of_ble_eq_true rfl, Nat.le_of_ble_eq_true rfl⟩, (htb _ q667)⟩ ⟨ro_blind, ro_pre hN (hP.sub (ws' := []) [] rfl) (hK.sub (tys' := []) [] rfl)⟩ rfl rfl hl.1 rfl (lv_room (Nat.le_of_ble_eq_true rfl)) d_M_need_27 ⟨Nat.le_of_ble_eq_true rfl, Nat.le_of_ble_eq_true rfl⟩) (fun r_3 hr_3 => ?_)
  subst hr_3
  refine nr_top (y := nI 1) (by rw [in_n (by omega) hxs (by omega)]; rfl) ?_
  refine nr_if_eq (tgt := 44) hx hb (by omega) d_M_need_30 (by decide) (fun c_30 => by exfalso; omega) (fun c_30 => ?_)
  refine lv_iload hx hb d_M_need_33 (lv_at hl 4 rfl) ?_
  refine nr_iconst hx hb 0 d_M_need_35 (by decide) ?_
  refine nr_bipush hx hb 15 d_M_need_36 (by decide) ?_
  refine nr_calli (va_runS (As := [.int (nI y), .int (nI 0), .int (nI 15)]) (rest := [.int (nI 0), .ref (am 0)]) ⟨hx, hb, hml, hown, hts⟩ (c_M_in l D (nI y) (nI 0) (nI 15)) ⟨callB_of 3 hts (gTB q_M_in) rfl rfl rfl (htb _ q4) (htb _ q666) hd_M_in ⟨Nat.le_of_ble_eq_true rfl, Nat.le_of_ble_eq_true rfl⟩, (htb _ q667)⟩ ⟨ro_blind, ro_pre hN (hP.sub (ws' := []) [] rfl) (hK.sub (tys' := []) [] rfl)⟩ rfl rfl hl.1 rfl (lv_room (Nat.le_of_ble_eq_true rfl)) d_M_need_38 ⟨Nat.le_of_ble_eq_true rfl, Nat.le_of_ble_eq_true rfl⟩) (fun r_4 hr_4 => ?_)
  subst hr_4
  refine nr_top (y := nI 1) (by rw [in_n (by omega) hy15 (by omega)]; rfl) ?_
  refine nr_if_ne (tgt := 48) hx hb (by omega) d_M_need_41 (by decide) (fun c_41 => ?_) (fun c_41 => by exfalso; omega)
  refine nr_iconst hx hb 0 d_M_need_48 (by decide) ?_
  refine nr_iconst hx hb 0 d_M_need_49 (by decide) ?_
  refine nr_iconst hx hb 0 d_M_need_50 (by decide) ?_
  refine nr_callwi (wr := ([] : va_W)) (va_runV (As := [.int (nI 0), .int (nI 0), .int (nI 0), .int (nI 0)]) (rest := []) ⟨hx, hb, hml, hown, hts⟩ (c_M_throwing l D am cm P G X 0 0 0 0 (by decide) (by decide) (by decide) (by decide) H.size) ⟨callB_of 4 hts (gTB q_M_throwing) rfl rfl rfl (htb _ q4) (htb _ q669) hd_M_throwing ⟨Nat.le_of_ble_eq_true rfl, Nat.le_of_ble_eq_true rfl⟩, (htb _ q671), (htb _ sel_M_throwing)⟩ ⟨rw_blind, va_recv (hK.sub (tys' := []) [] rfl) hP (ci := 3) (q0 := 0) rfl rfl, rw_pre hN (hP.sub (ws' := (wM am cm P G X)) [0, 1, 2, 3, 4, 5, 6, 7, 8, 9, 10, 11, 12, 13, 14] rfl) (hK.sub (tys' := (tM cm)) [0, 1, 2, 3, 4, 5, 6, 7, 8, 9, 10, 11, 12, 13] rfl) (hD.sub (ws' := (wM am cm P G X)) [0, 1, 2, 3, 4, 5, 6, 7, 8, 9, 10, 11, 12, 13, 14] (by decide) rfl)⟩ rfl rfl hl.1 rfl (lv_room (Nat.le_of_ble_eq_true rfl)) d_M_need_51 ⟨Nat.le_of_ble_eq_true rfl, Nat.le_of_ble_eq_true rfl⟩) hP hD hS hA [0, 1, 2, 3, 4, 5, 6, 7, 8, 9, 10, 11, 12, 13, 14] [] rfl rfl (by decide) (by decide) (fun r_5 u_5 H locs hr_5 hP hD hS => ?_)
  subst hr_5
  replace hP := hP.sub (ws' := wM am cm P G (up2 X 0 0 0)) [0, 1, 2, 3, 4, 5, 6, 7, 8, 9, 10, 11, 12, 13, 14] rfl
  replace hD := hD.sub (ws' := wM am cm P G (up2 X 0 0 0)) [0, 1, 2, 3, 4, 5, 6, 7, 8, 9, 10, 11, 12, 13, 14] (by decide) rfl
  refine nr_top (y := nI 0) rfl ?_
  refine nr_if_eq (tgt := 58) hx hb (by omega) d_M_need_54 (by decide) (fun c_54 => ?_) (fun c_54 => by exfalso; omega)
  refine lv_aload_n hx hb d_M_need_58 rfl (lv_at hl 0 rfl) ?_
  refine va_get (D := D) (ci := 3) (v := .ref (am 7)) (C := R_M) (T := F_M) (N := 26) hx hb htb u_M hown hK hP 0 rfl rfl 11 (by decide) (htb _ q590) (fun _ h9 => h9) rfl d_M_need_59 ?_
  refine nr_iconst hx hb 4 d_M_need_62 (by decide) ?_
  refine lv_iload_n hx hb d_M_need_63 rfl (lv_at hl 1 rfl) ?_
  refine nr_imul hx hb d_M_need_64 ?_
  refine nr_top (y := nI (d * 4)) (congrArg nI (Nat.mul_comm _ _)) ?_
  refine lv_iload_n hx hb d_M_need_65 rfl (lv_at hl 2 rfl) ?_
  refine nr_iadd hx hb d_M_need_66 ?_
  refine lv_iload_n hx hb d_M_need_67 rfl (lv_at hl 3 rfl) ?_
  refine nr_iast hx hb hK hP hD hS 7 6 rfl rfl (by omega) (by decide) d_M_need_68 (fun H locs hP hD hS => ?_)
  replace hP : va_P D cls (wM am cm (up2 P 3 ((d * 4) + sf) x) G (up2 X 0 0 0)) H := hP
  replace hD : va_D A (wM am cm (up2 P 3 ((d * 4) + sf) x) G (up2 X 0 0 0)) := hD
  refine lv_aload_n hx hb d_M_need_69 rfl (lv_at hl 0 rfl) ?_
  refine va_get (D := D) (ci := 3) (v := .ref (am 8)) (C := R_M) (T := F_M) (N := 26) hx hb htb u_M hown hK hP 0 rfl rfl 12 (by decide) (htb _ q591) (fun _ h9 => h9) rfl d_M_need_70 ?_
  refine nr_iconst hx hb 4 d_M_need_73 (by decide) ?_
  refine lv_iload_n hx hb d_M_need_74 rfl (lv_at hl 1 rfl) ?_
  refine nr_imul hx hb d_M_need_75 ?_
  refine nr_top (y := nI (d * 4)) (congrArg nI (Nat.mul_comm _ _)) ?_
  refine lv_iload_n hx hb d_M_need_76 rfl (lv_at hl 2 rfl) ?_
  refine nr_iadd hx hb d_M_need_77 ?_
  refine lv_iload hx hb d_M_need_78 (lv_at hl 4 rfl) ?_
  refine nr_iast hx hb hK hP hD hS 8 7 rfl rfl (by omega) (by decide) d_M_need_80 (fun H locs hP hD hS => ?_)
  replace hP : va_P D cls (wM am cm (up2 (up2 P 3 ((d * 4) + sf) x) 4 ((d * 4) + sf) y) G (up2 X 0 0 0)) H := hP
  replace hD : va_D A (wM am cm (up2 (up2 P 3 ((d * 4) + sf) x) 4 ((d * 4) + sf) y) G (up2 X 0 0 0)) := hD
  exact W.vret hx hb hr (fun t ht hW => ⟨⟨(), rfl, trivial, by rw [ht]; exact hP, hD⟩, hS.F ht⟩) hS.2.2 d_M_need_81
set_option maxHeartbeats 4000000 in
set_option maxRecDepth 100000 in
theorem k_M_rules (l : Launch) (D : va_G) (am : Nat → Nat) (cm : Nat → ClassId) (P G X : Nat → Nat → Nat) (hP0 : okP P) (hG0 : okG G) (hX0 : okX X) (x y z : Nat) (hx24 : x ≤ 24) (hy : y ≤ 7) (hz : z ≤ 7) (sz : Nat) : Met l y_M_rules w_M_rules { frames := 1, cells := 0, slots := 0, locals := 24 } (rw_P [.ref (am 0), .int (nI x), .int (nI y), .int (nI z)] D (wM am cm P G X) (tM cm) sz) (rw_Qv (fun u : Unit => True) D (wM am cm P G X) (fun u => wM am cm (up2 (up2 (up2 P 0 2 x) 0 3 y) 0 4 z) G (up2 X 0 0 0)) sz) 0 0 (va_A (wM am cm P G X) sz) := by
  refine Met.ofW (cc := b_M_rules) (maxL := 4) (ret := none) (by decide) rfl ?_
  intro p e s m args below meth c s₁ B hml hv
  obtain ⟨rfl, hsz, hN, hP, hK, hD0⟩ := hv
  have hx := B.exec
  have hb := B.bytes
  have hr := B.returns
  have hts := atoms_spec (ws := w_M_rules) B.pre
  have htb : ∀ w ∈ TBG, w.before [.ref (am 0), .int (nI x), .int (nI y), .int (nI z)].toArray s = true := fun w h => hts w (List.mem_cons_of_mem _ h)
  have hown : s.vm.findClass R_M = some m.cls := findClass_of_methodNamed B.named
  have hlocks := B.notSynchronized
  subst hsz
  have hD := hD0.self (sz := s.heap.size)
  unfold rw_Qv
  generalize hAe : va_A (wM am cm P G X) s.heap.size = A at hD ⊢
  have hA : ∀ q : Nat, s.heap.size ≤ q → A q := fun q h => by rw [← hAe]; exact Or.inr h
  have hS : va_S A s.heap s.heap [] := va_S.rf
  have hl := lv_entry ([.ref (am 0), .int (nI x), .int (nI y), .int (nI z)]) (n := 4) (Nat.le_of_ble_eq_true rfl)
  rw [lg_entry_eq]
  generalize (lg_sl ([.ref (am 0), .int (nI x), .int (nI y), .int (nI z)]) ++ List.replicate (4 - (lg_sl ([.ref (am 0), .int (nI x), .int (nI y), .int (nI z)])).length) Slot.unset).toArray = ls at hl ⊢
  have hl : lv_has ls 4 [(0, .ref (am 0)), (1, .int (nI x)), (2, .int (nI y)), (3, .int (nI z))] := hl
  refine nr_start hP hS (fun H locs hP hS => ?_)
  obtain ⟨h00, h01, h02, h03, h04, h05, hp1, hp2, hp3, hp4, hp5, hp6⟩ := id hP0
  obtain ⟨k00, k01, hg1, hg2⟩ := id hG0
  obtain ⟨x00, x01, x02, x03, hx1, hx2, hx3, hx4, hx5, hx6, hx7⟩ := id hX0
  refine lv_aload_n hx hb d_M_rules_0 rfl (lv_at hl 0 rfl) ?_
  refine lv_iload_n hx hb d_M_rules_1 rfl (lv_at hl 1 rfl) ?_
  refine nr_iconst hx hb 0 d_M_rules_2 (by decide) ?_
  refine nr_bipush hx hb 24 d_M_rules_3 (by decide) ?_
  refine nr_calli (va_runS (As := [.int (nI x), .int (nI 0), .int (nI 24)]) (rest := [.ref (am 0)]) ⟨hx, hb, hml, hown, hts⟩ (c_M_in l D (nI x) (nI 0) (nI 24)) ⟨callB_of 3 hts (gTB q_M_in) rfl rfl rfl (htb _ q4) (htb _ q666) hd_M_in ⟨Nat.le_of_ble_eq_true rfl, Nat.le_of_ble_eq_true rfl⟩, (htb _ q667)⟩ ⟨ro_blind, ro_pre hN (hP.sub (ws' := []) [] rfl) (hK.sub (tys' := []) [] rfl)⟩ rfl rfl hl.1 rfl (lv_room (Nat.le_of_ble_eq_true rfl)) d_M_rules_5 ⟨Nat.le_of_ble_eq_true rfl, Nat.le_of_ble_eq_true rfl⟩) (fun r_1 hr_1 => ?_)
  subst hr_1
  refine nr_top (y := nI 1) (by rw [in_n (by omega) hx24 (by omega)]; rfl) ?_
  refine nr_if_eq (tgt := 31) hx hb (by omega) d_M_rules_8 (by decide) (fun c_8 => by exfalso; omega) (fun c_8 => ?_)
  refine lv_iload_n hx hb d_M_rules_11 rfl (lv_at hl 2 rfl) ?_
  refine nr_iconst hx hb 0 d_M_rules_12 (by decide) ?_
  refine nr_bipush hx hb 7 d_M_rules_13 (by decide) ?_
  refine nr_calli (va_runS (As := [.int (nI y), .int (nI 0), .int (nI 7)]) (rest := [.ref (am 0)]) ⟨hx, hb, hml, hown, hts⟩ (c_M_in l D (nI y) (nI 0) (nI 7)) ⟨callB_of 3 hts (gTB q_M_in) rfl rfl rfl (htb _ q4) (htb _ q666) hd_M_in ⟨Nat.le_of_ble_eq_true rfl, Nat.le_of_ble_eq_true rfl⟩, (htb _ q667)⟩ ⟨ro_blind, ro_pre hN (hP.sub (ws' := []) [] rfl) (hK.sub (tys' := []) [] rfl)⟩ rfl rfl hl.1 rfl (lv_room (Nat.le_of_ble_eq_true rfl)) d_M_rules_15 ⟨Nat.le_of_ble_eq_true rfl, Nat.le_of_ble_eq_true rfl⟩) (fun r_2 hr_2 => ?_)
  subst hr_2
  refine nr_top (y := nI 1) (by rw [in_n (by omega) hy (by omega)]; rfl) ?_
  refine nr_if_eq (tgt := 31) hx hb (by omega) d_M_rules_18 (by decide) (fun c_18 => by exfalso; omega) (fun c_18 => ?_)
  refine lv_iload_n hx hb d_M_rules_21 rfl (lv_at hl 3 rfl) ?_
  refine nr_iconst hx hb 0 d_M_rules_22 (by decide) ?_
  refine nr_bipush hx hb 7 d_M_rules_23 (by decide) ?_
  refine nr_calli (va_runS (As := [.int (nI z), .int (nI 0), .int (nI 7)]) (rest := [.ref (am 0)]) ⟨hx, hb, hml, hown, hts⟩ (c_M_in l D (nI z) (nI 0) (nI 7)) ⟨callB_of 3 hts (gTB q_M_in) rfl rfl rfl (htb _ q4) (htb _ q666) hd_M_in ⟨Nat.le_of_ble_eq_true rfl, Nat.le_of_ble_eq_true rfl⟩, (htb _ q667)⟩ ⟨ro_blind, ro_pre hN (hP.sub (ws' := []) [] rfl) (hK.sub (tys' := []) [] rfl)⟩ rfl rfl hl.1 rfl (lv_room (Nat.le_of_ble_eq_true rfl)) d_M_rules_25 ⟨Nat.le_of_ble_eq_true rfl, Nat.le_of_ble_eq_true rfl⟩) (fun r_3 hr_3 => ?_)
  subst hr_3
  refine nr_top (y := nI 1) (by rw [in_n (by omega) hz (by omega)]; rfl) ?_
  refine nr_if_ne (tgt := 35) hx hb (by omega) d_M_rules_28 (by decide) (fun c_28 => ?_) (fun c_28 => by exfalso; omega)
  refine nr_iconst hx hb 0 d_M_rules_35 (by decide) ?_
  refine nr_iconst hx hb 0 d_M_rules_36 (by decide) ?_
  refine nr_iconst hx hb 0 d_M_rules_37 (by decide) ?_
  refine nr_iconst hx hb 0 d_M_rules_38 (by decide) ?_
  refine nr_callwi (wr := ([] : va_W)) (va_runV (As := [.int (nI 0), .int (nI 0), .int (nI 0), .int (nI 0)]) (rest := []) ⟨hx, hb, hml, hown, hts⟩ (c_M_throwing l D am cm P G X 0 0 0 0 (by decide) (by decide) (by decide) (by decide) H.size) ⟨callB_of 4 hts (gTB q_M_throwing) rfl rfl rfl (htb _ q4) (htb _ q669) hd_M_throwing ⟨Nat.le_of_ble_eq_true rfl, Nat.le_of_ble_eq_true rfl⟩, (htb _ q671), (htb _ sel_M_throwing)⟩ ⟨rw_blind, va_recv (hK.sub (tys' := []) [] rfl) hP (ci := 3) (q0 := 0) rfl rfl, rw_pre hN (hP.sub (ws' := (wM am cm P G X)) [0, 1, 2, 3, 4, 5, 6, 7, 8, 9, 10, 11, 12, 13, 14] rfl) (hK.sub (tys' := (tM cm)) [0, 1, 2, 3, 4, 5, 6, 7, 8, 9, 10, 11, 12, 13] rfl) (hD.sub (ws' := (wM am cm P G X)) [0, 1, 2, 3, 4, 5, 6, 7, 8, 9, 10, 11, 12, 13, 14] (by decide) rfl)⟩ rfl rfl hl.1 rfl (lv_room (Nat.le_of_ble_eq_true rfl)) d_M_rules_39 ⟨Nat.le_of_ble_eq_true rfl, Nat.le_of_ble_eq_true rfl⟩) hP hD hS hA [0, 1, 2, 3, 4, 5, 6, 7, 8, 9, 10, 11, 12, 13, 14] [] rfl rfl (by decide) (by decide) (fun r_4 u_4 H locs hr_4 hP hD hS => ?_)
  subst hr_4
  replace hP := hP.sub (ws' := wM am cm P G (up2 X 0 0 0)) [0, 1, 2, 3, 4, 5, 6, 7, 8, 9, 10, 11, 12, 13, 14] rfl
  replace hD := hD.sub (ws' := wM am cm P G (up2 X 0 0 0)) [0, 1, 2, 3, 4, 5, 6, 7, 8, 9, 10, 11, 12, 13, 14] (by decide) rfl
  refine nr_top (y := nI 0) rfl ?_
  refine nr_if_eq (tgt := 46) hx hb (by omega) d_M_rules_42 (by decide) (fun c_42 => ?_) (fun c_42 => by exfalso; omega)
  refine lv_aload_n hx hb d_M_rules_46 rfl (lv_at hl 0 rfl) ?_
  refine lv_iload_n hx hb d_M_rules_47 rfl (lv_at hl 1 rfl) ?_
  refine va_put (D := D) (ci := 3) (v := .int (nI x)) (ty := .int) (C := R_M) (T := F_M) (N := 26) hx hb htb u_M t_M t_M_ok n_M hown hK hP hD hS 0 rfl rfl 14 (by decide) (htb _ q593) (fun _ h9 => h9) rfl (by decide +kernel) rfl rfl (Nat.le_of_ble_eq_true rfl) d_M_rules_48 (fun H locs hP hD hS => ?_)
  replace hP : va_P D cls (wM am cm (up2 P 0 2 x) G (up2 X 0 0 0)) H := hP
  replace hD : va_D A (wM am cm (up2 P 0 2 x) G (up2 X 0 0 0)) := hD
  refine lv_aload_n hx hb d_M_rules_51 rfl (lv_at hl 0 rfl) ?_
  refine lv_iload_n hx hb d_M_rules_52 rfl (lv_at hl 2 rfl) ?_
  refine va_put (D := D) (ci := 3) (v := .int (nI y)) (ty := .int) (C := R_M) (T := F_M) (N := 26) hx hb htb u_M t_M t_M_ok n_M hown hK hP hD hS 0 rfl rfl 15 (by decide) (htb _ q594) (fun _ h9 => h9) rfl (by decide +kernel) rfl rfl (Nat.le_of_ble_eq_true rfl) d_M_rules_53 (fun H locs hP hD hS => ?_)
  replace hP : va_P D cls (wM am cm (up2 (up2 P 0 2 x) 0 3 y) G (up2 X 0 0 0)) H := hP
  replace hD : va_D A (wM am cm (up2 (up2 P 0 2 x) 0 3 y) G (up2 X 0 0 0)) := hD
  refine lv_aload_n hx hb d_M_rules_56 rfl (lv_at hl 0 rfl) ?_
  refine lv_iload_n hx hb d_M_rules_57 rfl (lv_at hl 3 rfl) ?_
  refine va_put (D := D) (ci := 3) (v := .int (nI z)) (ty := .int) (C := R_M) (T := F_M) (N := 26) hx hb htb u_M t_M t_M_ok n_M hown hK hP hD hS 0 rfl rfl 16 (by decide) (htb _ q595) (fun _ h9 => h9) rfl (by decide +kernel) rfl rfl (Nat.le_of_ble_eq_true rfl) d_M_rules_58 (fun H locs hP hD hS => ?_)
  replace hP : va_P D cls (wM am cm (up2 (up2 (up2 P 0 2 x) 0 3 y) 0 4 z) G (up2 X 0 0 0)) H := hP
  replace hD : va_D A (wM am cm (up2 (up2 (up2 P 0 2 x) 0 3 y) 0 4 z) G (up2 X 0 0 0)) := hD
  exact W.vret hx hb hr (fun t ht hW => ⟨⟨(), rfl, trivial, by rw [ht]; exact hP, hD⟩, hS.F ht⟩) hS.2.2 d_M_rules_61
set_option maxHeartbeats 4000000 in
set_option maxRecDepth 100000 in
theorem k_M_bar (l : Launch) (D : va_G) (am : Nat → Nat) (cm : Nat → ClassId) (P G X : Nat → Nat → Nat) (hP0 : okP P) (hG0 : okG G) (hX0 : okX X) (p1 d sf b : Nat) (hp : p1 < P 0 0) (hd : d < P 0 1) (hs1 : 1 ≤ sf) (hs3 : sf ≤ 3) (hb1 : b ≤ 1) (sz : Nat) : Met l y_M_bar w_M_bar { frames := 2, cells := 0, slots := 0, locals := 43 } (rw_P [.ref (am 0), .int (nI p1), .int (nI d), .int (nI sf), .int (nI b)] D (wM am cm P G X) (tM cm) sz) (rw_Qv (fun u : Unit => True) D (wM am cm P G X) (fun u => wM am cm (up2 P 5 ((d * 6 + p1) * 4 + sf) b) G (up2 X 0 0 0)) sz) 0 0 (va_A (wM am cm P G X) sz) := by
  refine Met.ofW (cc := b_M_bar) (maxL := 5) (ret := none) (by decide) rfl ?_
  intro p e s m args below meth c s₁ B hml hv
  obtain ⟨rfl, hsz, hN, hP, hK, hD0⟩ := hv
  have hx := B.exec
  have hb := B.bytes
  have hr := B.returns
  have hts := atoms_spec (ws := w_M_bar) B.pre
  have htb : ∀ w ∈ TBG, w.before [.ref (am 0), .int (nI p1), .int (nI d), .int (nI sf), .int (nI b)].toArray s = true := fun w h => hts w (List.mem_cons_of_mem _ h)
  have hown : s.vm.findClass R_M = some m.cls := findClass_of_methodNamed B.named
  have hlocks := B.notSynchronized
  subst hsz
  have hD := hD0.self (sz := s.heap.size)
  unfold rw_Qv
  generalize hAe : va_A (wM am cm P G X) s.heap.size = A at hD ⊢
  have hA : ∀ q : Nat, s.heap.size ≤ q → A q := fun q h => by rw [← hAe]; exact Or.inr h
  have hS : va_S A s.heap s.heap [] := va_S.rf
  have hl := lv_entry ([.ref (am 0), .int (nI p1), .int (nI d), .int (nI sf), .int (nI b)]) (n := 5) (Nat.le_of_ble_eq_true rfl)
  rw [lg_entry_eq]
  generalize (lg_sl ([.ref (am 0), .int (nI p1), .int (nI d), .int (nI sf), .int (nI b)]) ++ List.replicate (5 - (lg_sl ([.ref (am 0), .int (nI p1), .int (nI d), .int (nI sf), .int (nI b)])).length) Slot.unset).toArray = ls at hl ⊢
  have hl : lv_has ls 5 [(0, .ref (am 0)), (1, .int (nI p1)), (2, .int (nI d)), (3, .int (nI sf)), (4, .int (nI b))] := hl
  refine nr_start hP hS (fun H locs hP hS => ?_)
  obtain ⟨h00, h01, h02, h03, h04, h05, hp1, hp2, hp3, hp4, hp5, hp6⟩ := id hP0
  obtain ⟨k00, k01, hg1, hg2⟩ := id hG0
  obtain ⟨x00, x01, x02, x03, hx1, hx2, hx3, hx4, hx5, hx6, hx7⟩ := id hX0
  refine lv_aload_n hx hb d_M_bar_0 rfl (lv_at hl 0 rfl) ?_
  refine lv_aload_n hx hb d_M_bar_1 rfl (lv_at hl 0 rfl) ?_
  refine lv_iload_n hx hb d_M_bar_2 rfl (lv_at hl 1 rfl) ?_
  refine nr_calli (va_runV (As := [.int (nI p1)]) (rest := [.ref (am 0)]) ⟨hx, hb, hml, hown, hts⟩ (c_M_isPerson l D am cm P G X (am 3) (cm 2) (G 1) hP0 hG0 hX0 hg1 (nI p1)) ⟨callB_of 1 hts (gTB q_M_isPerson) rfl rfl rfl (htb _ q4) (htb _ q693) hd_M_isPerson ⟨Nat.le_of_ble_eq_true rfl, Nat.le_of_ble_eq_true rfl⟩, (htb _ q695), (htb _ sel_M_isPerson)⟩ ⟨ro_blind, va_recv (hK.sub (tys' := []) [] rfl) hP (ci := 3) (q0 := 0) rfl rfl, ro_pre hN (hP.sub (ws' := (wMS am cm P G X (am 3) (cm 2) (G 1))) [0, 1, 2, 3, 4, 5, 6, 7, 8, 9, 10, 11, 12, 13, 14, 3] rfl) (hK.sub (tys' := (tMS cm (cm 2))) [0, 1, 2, 3, 4, 5, 6, 7, 8, 9, 10, 11, 12, 13, 2] rfl)⟩ rfl rfl hl.1 rfl (lv_room (Nat.le_of_ble_eq_true rfl)) d_M_bar_3 ⟨Nat.le_of_ble_eq_true rfl, Nat.le_of_ble_eq_true rfl⟩) (fun r_1 hr_1 => ?_)
  subst hr_1
  refine nr_top (y := nI 1) (by rw [inR_n hp (by omega)]; rfl) ?_
  refine nr_if_eq (tgt := 26) hx hb (by omega) d_M_bar_6 (by decide) (fun c_6 => by exfalso; omega) (fun c_6 => ?_)
  refine lv_aload_n hx hb d_M_bar_9 rfl (lv_at hl 0 rfl) ?_
  refine lv_iload_n hx hb d_M_bar_10 rfl (lv_at hl 2 rfl) ?_
  refine nr_calli (va_runV (As := [.int (nI d)]) (rest := [.ref (am 0)]) ⟨hx, hb, hml, hown, hts⟩ (c_M_isDay l D am cm P G X (am 3) (cm 2) (G 1) hP0 hG0 hX0 hg1 (nI d)) ⟨callB_of 1 hts (gTB q_M_isDay) rfl rfl rfl (htb _ q4) (htb _ q681) hd_M_isDay ⟨Nat.le_of_ble_eq_true rfl, Nat.le_of_ble_eq_true rfl⟩, (htb _ q683), (htb _ sel_M_isDay)⟩ ⟨ro_blind, va_recv (hK.sub (tys' := []) [] rfl) hP (ci := 3) (q0 := 0) rfl rfl, ro_pre hN (hP.sub (ws' := (wMS am cm P G X (am 3) (cm 2) (G 1))) [0, 1, 2, 3, 4, 5, 6, 7, 8, 9, 10, 11, 12, 13, 14, 3] rfl) (hK.sub (tys' := (tMS cm (cm 2))) [0, 1, 2, 3, 4, 5, 6, 7, 8, 9, 10, 11, 12, 13, 2] rfl)⟩ rfl rfl hl.1 rfl (lv_room (Nat.le_of_ble_eq_true rfl)) d_M_bar_11 ⟨Nat.le_of_ble_eq_true rfl, Nat.le_of_ble_eq_true rfl⟩) (fun r_2 hr_2 => ?_)
  subst hr_2
  refine nr_top (y := nI 1) (by rw [inR_n hd (by omega)]; rfl) ?_
  refine nr_if_eq (tgt := 26) hx hb (by omega) d_M_bar_14 (by decide) (fun c_14 => by exfalso; omega) (fun c_14 => ?_)
  refine lv_iload_n hx hb d_M_bar_17 rfl (lv_at hl 3 rfl) ?_
  refine nr_iconst hx hb 1 d_M_bar_18 (by decide) ?_
  refine nr_iconst hx hb 3 d_M_bar_19 (by decide) ?_
  refine nr_calli (va_runS (As := [.int (nI sf), .int (nI 1), .int (nI 3)]) (rest := [.ref (am 0)]) ⟨hx, hb, hml, hown, hts⟩ (c_M_in l D (nI sf) (nI 1) (nI 3)) ⟨callB_of 3 hts (gTB q_M_in) rfl rfl rfl (htb _ q4) (htb _ q666) hd_M_in ⟨Nat.le_of_ble_eq_true rfl, Nat.le_of_ble_eq_true rfl⟩, (htb _ q667)⟩ ⟨ro_blind, ro_pre hN (hP.sub (ws' := []) [] rfl) (hK.sub (tys' := []) [] rfl)⟩ rfl rfl hl.1 rfl (lv_room (Nat.le_of_ble_eq_true rfl)) d_M_bar_20 ⟨Nat.le_of_ble_eq_true rfl, Nat.le_of_ble_eq_true rfl⟩) (fun r_3 hr_3 => ?_)
  subst hr_3
  refine nr_top (y := nI 1) (by rw [in_n hs1 hs3 (by omega)]; rfl) ?_
  refine nr_if_ne (tgt := 30) hx hb (by omega) d_M_bar_23 (by decide) (fun c_23 => ?_) (fun c_23 => by exfalso; omega)
  refine nr_iconst hx hb 0 d_M_bar_30 (by decide) ?_
  refine nr_iconst hx hb 0 d_M_bar_31 (by decide) ?_
  refine nr_iconst hx hb 0 d_M_bar_32 (by decide) ?_
  refine nr_iconst hx hb 0 d_M_bar_33 (by decide) ?_
  refine nr_callwi (wr := ([] : va_W)) (va_runV (As := [.int (nI 0), .int (nI 0), .int (nI 0), .int (nI 0)]) (rest := []) ⟨hx, hb, hml, hown, hts⟩ (c_M_throwing l D am cm P G X 0 0 0 0 (by decide) (by decide) (by decide) (by decide) H.size) ⟨callB_of 4 hts (gTB q_M_throwing) rfl rfl rfl (htb _ q4) (htb _ q669) hd_M_throwing ⟨Nat.le_of_ble_eq_true rfl, Nat.le_of_ble_eq_true rfl⟩, (htb _ q671), (htb _ sel_M_throwing)⟩ ⟨rw_blind, va_recv (hK.sub (tys' := []) [] rfl) hP (ci := 3) (q0 := 0) rfl rfl, rw_pre hN (hP.sub (ws' := (wM am cm P G X)) [0, 1, 2, 3, 4, 5, 6, 7, 8, 9, 10, 11, 12, 13, 14] rfl) (hK.sub (tys' := (tM cm)) [0, 1, 2, 3, 4, 5, 6, 7, 8, 9, 10, 11, 12, 13] rfl) (hD.sub (ws' := (wM am cm P G X)) [0, 1, 2, 3, 4, 5, 6, 7, 8, 9, 10, 11, 12, 13, 14] (by decide) rfl)⟩ rfl rfl hl.1 rfl (lv_room (Nat.le_of_ble_eq_true rfl)) d_M_bar_34 ⟨Nat.le_of_ble_eq_true rfl, Nat.le_of_ble_eq_true rfl⟩) hP hD hS hA [0, 1, 2, 3, 4, 5, 6, 7, 8, 9, 10, 11, 12, 13, 14] [] rfl rfl (by decide) (by decide) (fun r_4 u_4 H locs hr_4 hP hD hS => ?_)
  subst hr_4
  replace hP := hP.sub (ws' := wM am cm P G (up2 X 0 0 0)) [0, 1, 2, 3, 4, 5, 6, 7, 8, 9, 10, 11, 12, 13, 14] rfl
  replace hD := hD.sub (ws' := wM am cm P G (up2 X 0 0 0)) [0, 1, 2, 3, 4, 5, 6, 7, 8, 9, 10, 11, 12, 13, 14] (by decide) rfl
  refine nr_top (y := nI 0) rfl ?_
  refine nr_if_eq (tgt := 41) hx hb (by omega) d_M_bar_37 (by decide) (fun c_37 => ?_) (fun c_37 => by exfalso; omega)
  refine lv_aload_n hx hb d_M_bar_41 rfl (lv_at hl 0 rfl) ?_
  refine va_get (D := D) (ci := 3) (v := .ref (am 9)) (C := R_M) (T := F_M) (N := 26) hx hb htb u_M hown hK hP 0 rfl rfl 13 (by decide) (htb _ q592) (fun _ h9 => h9) rfl d_M_bar_42 ?_
  refine nr_bipush hx hb 24 d_M_bar_45 (by decide) ?_
  refine lv_iload_n hx hb d_M_bar_47 rfl (lv_at hl 2 rfl) ?_
  refine nr_imul hx hb d_M_bar_48 ?_
  refine nr_top (y := nI (d * 24)) (congrArg nI (Nat.mul_comm _ _)) ?_
  refine nr_iconst hx hb 4 d_M_bar_49 (by decide) ?_
  refine lv_iload_n hx hb d_M_bar_50 rfl (lv_at hl 1 rfl) ?_
  refine nr_imul hx hb d_M_bar_51 ?_
  refine nr_top (y := nI (p1 * 4)) (congrArg nI (Nat.mul_comm _ _)) ?_
  refine nr_iadd hx hb d_M_bar_52 ?_
  refine lv_iload_n hx hb d_M_bar_53 rfl (lv_at hl 3 rfl) ?_
  refine nr_iadd hx hb d_M_bar_54 ?_
  refine nr_top (y := nI ((d * 6 + p1) * 4 + sf)) (congrArg nI (by omega)) ?_
  refine lv_iload hx hb d_M_bar_55 (lv_at hl 4 rfl) ?_
  refine nr_zast hx hb hK hP hD hS 9 8 rfl rfl (by omega) (by decide) (by omega) d_M_bar_57 (fun H locs hP hD hS => ?_)
  replace hP : va_P D cls (wM am cm (up2 P 5 ((d * 6 + p1) * 4 + sf) b) G (up2 X 0 0 0)) H := hP
  replace hD : va_D A (wM am cm (up2 P 5 ((d * 6 + p1) * 4 + sf) b) G (up2 X 0 0 0)) := hD
  exact W.vret hx hb hr (fun t ht hW => ⟨⟨(), rfl, trivial, by rw [ht]; exact hP, hD⟩, hS.F ht⟩) hS.2.2 d_M_bar_58
set_option maxHeartbeats 4000000 in
set_option maxRecDepth 100000 in
theorem k_M_freeze (l : Launch) (D : va_G) (am : Nat → Nat) (cm : Nat → ClassId) (P G X : Nat → Nat → Nat) (hP0 : okP P) (hG0 : okG G) (hX0 : okX X) (x : Nat) (hxa : G 0 0 ≤ x) (hxb : x ≤ P 0 1) (sz : Nat) : Met l y_M_freeze w_M_freeze { frames := 1, cells := 0, slots := 0, locals := 24 } (rw_P [.ref (am 0), .int (nI x)] D (wM am cm P G X) (tM cm) sz) (rw_Qv (fun u : Unit => True) D (wM am cm P G X) (fun u => wM am cm P (up2 G 0 0 x) (up2 X 0 0 0)) sz) 0 0 (va_A (wM am cm P G X) sz) := by
  refine Met.ofW (cc := b_M_freeze) (maxL := 2) (ret := none) (by decide) rfl ?_
  intro p e s m args below meth c s₁ B hml hv
  obtain ⟨rfl, hsz, hN, hP, hK, hD0⟩ := hv
  have hx := B.exec
  have hb := B.bytes
  have hr := B.returns
  have hts := atoms_spec (ws := w_M_freeze) B.pre
  have htb : ∀ w ∈ TBG, w.before [.ref (am 0), .int (nI x)].toArray s = true := fun w h => hts w (List.mem_cons_of_mem _ h)
  have hown : s.vm.findClass R_M = some m.cls := findClass_of_methodNamed B.named
  have hlocks := B.notSynchronized
  subst hsz
  have hD := hD0.self (sz := s.heap.size)
  unfold rw_Qv
  generalize hAe : va_A (wM am cm P G X) s.heap.size = A at hD ⊢
  have hA : ∀ q : Nat, s.heap.size ≤ q → A q := fun q h => by rw [← hAe]; exact Or.inr h
  have hS : va_S A s.heap s.heap [] := va_S.rf
  have hl := lv_entry ([.ref (am 0), .int (nI x)]) (n := 2) (Nat.le_of_ble_eq_true rfl)
  rw [lg_entry_eq]
  generalize (lg_sl ([.ref (am 0), .int (nI x)]) ++ List.replicate (2 - (lg_sl ([.ref (am 0), .int (nI x)])).length) Slot.unset).toArray = ls at hl ⊢
  have hl : lv_has ls 2 [(0, .ref (am 0)), (1, .int (nI x))] := hl
  refine nr_start hP hS (fun H locs hP hS => ?_)
  obtain ⟨h00, h01, h02, h03, h04, h05, hp1, hp2, hp3, hp4, hp5, hp6⟩ := id hP0
  obtain ⟨k00, k01, hg1, hg2⟩ := id hG0
  obtain ⟨x00, x01, x02, x03, hx1, hx2, hx3, hx4, hx5, hx6, hx7⟩ := id hX0
  refine lv_aload_n hx hb d_M_freeze_0 rfl (lv_at hl 0 rfl) ?_
  refine lv_iload_n hx hb d_M_freeze_1 rfl (lv_at hl 1 rfl) ?_
  refine lv_aload_n hx hb d_M_freeze_2 rfl (lv_at hl 0 rfl) ?_
  refine va_get (D := D) (ci := 3) (v := .int (nI (G 0 0))) (C := R_M) (T := F_M) (N := 26) hx hb htb u_M hown hK hP 0 rfl rfl 3 (by decide) (htb _ q582) (fun _ h9 => h9) rfl d_M_freeze_3 ?_
  refine nr_icmp_lt (tgt := 17) hx hb (by omega) (by omega) d_M_freeze_6 (by decide) (fun c_6 => by exfalso; omega) (fun c_6 => ?_)
  refine lv_iload_n hx hb d_M_freeze_9 rfl (lv_at hl 1 rfl) ?_
  refine lv_aload_n hx hb d_M_freeze_10 rfl (lv_at hl 0 rfl) ?_
  refine va_get (D := D) (ci := 3) (v := .int (nI (P 0 1))) (C := R_M) (T := F_M) (N := 26) hx hb htb u_M hown hK hP 0 rfl rfl 2 (by decide) (htb _ q581) (fun _ h9 => h9) rfl d_M_freeze_11 ?_
  refine nr_icmp_le (tgt := 21) hx hb (by omega) (by omega) d_M_freeze_14 (by decide) (fun c_14 => ?_) (fun c_14 => by exfalso; omega)
  refine nr_iconst hx hb 0 d_M_freeze_21 (by decide) ?_
  refine nr_iconst hx hb 0 d_M_freeze_22 (by decide) ?_
  refine nr_iconst hx hb 0 d_M_freeze_23 (by decide) ?_
  refine nr_iconst hx hb 0 d_M_freeze_24 (by decide) ?_
  refine nr_callwi (wr := ([] : va_W)) (va_runV (As := [.int (nI 0), .int (nI 0), .int (nI 0), .int (nI 0)]) (rest := []) ⟨hx, hb, hml, hown, hts⟩ (c_M_throwing l D am cm P G X 0 0 0 0 (by decide) (by decide) (by decide) (by decide) H.size) ⟨callB_of 4 hts (gTB q_M_throwing) rfl rfl rfl (htb _ q4) (htb _ q669) hd_M_throwing ⟨Nat.le_of_ble_eq_true rfl, Nat.le_of_ble_eq_true rfl⟩, (htb _ q671), (htb _ sel_M_throwing)⟩ ⟨rw_blind, va_recv (hK.sub (tys' := []) [] rfl) hP (ci := 3) (q0 := 0) rfl rfl, rw_pre hN (hP.sub (ws' := (wM am cm P G X)) [0, 1, 2, 3, 4, 5, 6, 7, 8, 9, 10, 11, 12, 13, 14] rfl) (hK.sub (tys' := (tM cm)) [0, 1, 2, 3, 4, 5, 6, 7, 8, 9, 10, 11, 12, 13] rfl) (hD.sub (ws' := (wM am cm P G X)) [0, 1, 2, 3, 4, 5, 6, 7, 8, 9, 10, 11, 12, 13, 14] (by decide) rfl)⟩ rfl rfl hl.1 rfl (lv_room (Nat.le_of_ble_eq_true rfl)) d_M_freeze_25 ⟨Nat.le_of_ble_eq_true rfl, Nat.le_of_ble_eq_true rfl⟩) hP hD hS hA [0, 1, 2, 3, 4, 5, 6, 7, 8, 9, 10, 11, 12, 13, 14] [] rfl rfl (by decide) (by decide) (fun r_1 u_1 H locs hr_1 hP hD hS => ?_)
  subst hr_1
  replace hP := hP.sub (ws' := wM am cm P G (up2 X 0 0 0)) [0, 1, 2, 3, 4, 5, 6, 7, 8, 9, 10, 11, 12, 13, 14] rfl
  replace hD := hD.sub (ws' := wM am cm P G (up2 X 0 0 0)) [0, 1, 2, 3, 4, 5, 6, 7, 8, 9, 10, 11, 12, 13, 14] (by decide) rfl
  refine nr_top (y := nI 0) rfl ?_
  refine nr_if_eq (tgt := 32) hx hb (by omega) d_M_freeze_28 (by decide) (fun c_28 => ?_) (fun c_28 => by exfalso; omega)
  refine lv_aload_n hx hb d_M_freeze_32 rfl (lv_at hl 0 rfl) ?_
  refine lv_iload_n hx hb d_M_freeze_33 rfl (lv_at hl 1 rfl) ?_
  refine va_put (D := D) (ci := 3) (v := .int (nI x)) (ty := .int) (C := R_M) (T := F_M) (N := 26) hx hb htb u_M t_M t_M_ok n_M hown hK hP hD hS 0 rfl rfl 3 (by decide) (htb _ q582) (fun _ h9 => h9) rfl (by decide +kernel) rfl rfl (Nat.le_of_ble_eq_true rfl) d_M_freeze_34 (fun H locs hP hD hS => ?_)
  replace hP : va_P D cls (wM am cm P (up2 G 0 0 x) (up2 X 0 0 0)) H := hP
  replace hD : va_D A (wM am cm P (up2 G 0 0 x) (up2 X 0 0 0)) := hD
  exact W.vret hx hb hr (fun t ht hW => ⟨⟨(), rfl, trivial, by rw [ht]; exact hP, hD⟩, hS.F ht⟩) hS.2.2 d_M_freeze_37
set_option maxHeartbeats 4000000 in
set_option maxRecDepth 100000 in
theorem k_M_set (l : Launch) (D : va_G) (am : Nat → Nat) (cm : Nat → ClassId) (P G X : Nat → Nat → Nat) (hP0 : okP P) (hG0 : okG G) (hX0 : okX X) (p1 d sf : Nat) (hp : p1 < P 0 0) (hd : d < P 0 1) (hs3 : sf ≤ 3) (hfr : G 0 0 ≤ d) (sz : Nat) : Met l y_M_set w_M_set { frames := 2, cells := 0, slots := 0, locals := 43 } (rw_P [.ref (am 0), .int (nI p1), .int (nI d), .int (nI sf)] D (wM am cm P G X) (tM cm) sz) (rw_Qv (fun u : Unit => True) D (wM am cm P G X) (fun u => wM am cm P (up2 G 1 (d * 6 + p1) sf) (up2 X 0 0 0)) sz) 0 0 (va_A (wM am cm P G X) sz) := by
  refine Met.ofW (cc := b_M_set) (maxL := 5) (ret := none) (by decide) rfl ?_
  intro p e s m args below meth c s₁ B hml hv
  obtain ⟨rfl, hsz, hN, hP, hK, hD0⟩ := hv
  have hx := B.exec
  have hb := B.bytes
  have hr := B.returns
  have hts := atoms_spec (ws := w_M_set) B.pre
  have htb : ∀ w ∈ TBG, w.before [.ref (am 0), .int (nI p1), .int (nI d), .int (nI sf)].toArray s = true := fun w h => hts w (List.mem_cons_of_mem _ h)
  have hown : s.vm.findClass R_M = some m.cls := findClass_of_methodNamed B.named
  have hlocks := B.notSynchronized
  subst hsz
  have hD := hD0.self (sz := s.heap.size)
  unfold rw_Qv
  generalize hAe : va_A (wM am cm P G X) s.heap.size = A at hD ⊢
  have hA : ∀ q : Nat, s.heap.size ≤ q → A q := fun q h => by rw [← hAe]; exact Or.inr h
  have hS : va_S A s.heap s.heap [] := va_S.rf
  have hl := lv_entry ([.ref (am 0), .int (nI p1), .int (nI d), .int (nI sf)]) (n := 5) (Nat.le_of_ble_eq_true rfl)
  rw [lg_entry_eq]
  generalize (lg_sl ([.ref (am 0), .int (nI p1), .int (nI d), .int (nI sf)]) ++ List.replicate (5 - (lg_sl ([.ref (am 0), .int (nI p1), .int (nI d), .int (nI sf)])).length) Slot.unset).toArray = ls at hl ⊢
  have hl : lv_has ls 5 [(0, .ref (am 0)), (1, .int (nI p1)), (2, .int (nI d)), (3, .int (nI sf))] := hl
  refine nr_start hP hS (fun H locs hP hS => ?_)
  obtain ⟨h00, h01, h02, h03, h04, h05, hp1, hp2, hp3, hp4, hp5, hp6⟩ := id hP0
  obtain ⟨k00, k01, hg1, hg2⟩ := id hG0
  obtain ⟨x00, x01, x02, x03, hx1, hx2, hx3, hx4, hx5, hx6, hx7⟩ := id hX0
  refine lv_aload_n hx hb d_M_set_0 rfl (lv_at hl 0 rfl) ?_
  refine lv_iload_n hx hb d_M_set_1 rfl (lv_at hl 1 rfl) ?_
  refine nr_calli (va_runV (As := [.int (nI p1)]) (rest := []) ⟨hx, hb, hml, hown, hts⟩ (c_M_isPerson l D am cm P G X (am 3) (cm 2) (G 1) hP0 hG0 hX0 hg1 (nI p1)) ⟨callB_of 1 hts (gTB q_M_isPerson) rfl rfl rfl (htb _ q4) (htb _ q693) hd_M_isPerson ⟨Nat.le_of_ble_eq_true rfl, Nat.le_of_ble_eq_true rfl⟩, (htb _ q695), (htb _ sel_M_isPerson)⟩ ⟨ro_blind, va_recv (hK.sub (tys' := []) [] rfl) hP (ci := 3) (q0 := 0) rfl rfl, ro_pre hN (hP.sub (ws' := (wMS am cm P G X (am 3) (cm 2) (G 1))) [0, 1, 2, 3, 4, 5, 6, 7, 8, 9, 10, 11, 12, 13, 14, 3] rfl) (hK.sub (tys' := (tMS cm (cm 2))) [0, 1, 2, 3, 4, 5, 6, 7, 8, 9, 10, 11, 12, 13, 2] rfl)⟩ rfl rfl hl.1 rfl (lv_room (Nat.le_of_ble_eq_true rfl)) d_M_set_2 ⟨Nat.le_of_ble_eq_true rfl, Nat.le_of_ble_eq_true rfl⟩) (fun r_1 hr_1 => ?_)
  subst hr_1
  refine nr_top (y := nI 1) (by rw [inR_n hp (by omega)]; rfl) ?_
  refine nr_if_eq (tgt := 25) hx hb (by omega) d_M_set_5 (by decide) (fun c_5 => by exfalso; omega) (fun c_5 => ?_)
  refine lv_aload_n hx hb d_M_set_8 rfl (lv_at hl 0 rfl) ?_
  refine lv_iload_n hx hb d_M_set_9 rfl (lv_at hl 2 rfl) ?_
  refine nr_calli (va_runV (As := [.int (nI d)]) (rest := []) ⟨hx, hb, hml, hown, hts⟩ (c_M_isDay l D am cm P G X (am 3) (cm 2) (G 1) hP0 hG0 hX0 hg1 (nI d)) ⟨callB_of 1 hts (gTB q_M_isDay) rfl rfl rfl (htb _ q4) (htb _ q681) hd_M_isDay ⟨Nat.le_of_ble_eq_true rfl, Nat.le_of_ble_eq_true rfl⟩, (htb _ q683), (htb _ sel_M_isDay)⟩ ⟨ro_blind, va_recv (hK.sub (tys' := []) [] rfl) hP (ci := 3) (q0 := 0) rfl rfl, ro_pre hN (hP.sub (ws' := (wMS am cm P G X (am 3) (cm 2) (G 1))) [0, 1, 2, 3, 4, 5, 6, 7, 8, 9, 10, 11, 12, 13, 14, 3] rfl) (hK.sub (tys' := (tMS cm (cm 2))) [0, 1, 2, 3, 4, 5, 6, 7, 8, 9, 10, 11, 12, 13, 2] rfl)⟩ rfl rfl hl.1 rfl (lv_room (Nat.le_of_ble_eq_true rfl)) d_M_set_10 ⟨Nat.le_of_ble_eq_true rfl, Nat.le_of_ble_eq_true rfl⟩) (fun r_2 hr_2 => ?_)
  subst hr_2
  refine nr_top (y := nI 1) (by rw [inR_n hd (by omega)]; rfl) ?_
  refine nr_if_eq (tgt := 25) hx hb (by omega) d_M_set_13 (by decide) (fun c_13 => by exfalso; omega) (fun c_13 => ?_)
  refine lv_iload_n hx hb d_M_set_16 rfl (lv_at hl 3 rfl) ?_
  refine nr_iconst hx hb 0 d_M_set_17 (by decide) ?_
  refine nr_iconst hx hb 3 d_M_set_18 (by decide) ?_
  refine nr_calli (va_runS (As := [.int (nI sf), .int (nI 0), .int (nI 3)]) (rest := []) ⟨hx, hb, hml, hown, hts⟩ (c_M_in l D (nI sf) (nI 0) (nI 3)) ⟨callB_of 3 hts (gTB q_M_in) rfl rfl rfl (htb _ q4) (htb _ q666) hd_M_in ⟨Nat.le_of_ble_eq_true rfl, Nat.le_of_ble_eq_true rfl⟩, (htb _ q667)⟩ ⟨ro_blind, ro_pre hN (hP.sub (ws' := []) [] rfl) (hK.sub (tys' := []) [] rfl)⟩ rfl rfl hl.1 rfl (lv_room (Nat.le_of_ble_eq_true rfl)) d_M_set_19 ⟨Nat.le_of_ble_eq_true rfl, Nat.le_of_ble_eq_true rfl⟩) (fun r_3 hr_3 => ?_)
  subst hr_3
  refine nr_top (y := nI 1) (by rw [in_n (by omega) hs3 (by omega)]; rfl) ?_
  refine nr_if_ne (tgt := 29) hx hb (by omega) d_M_set_22 (by decide) (fun c_22 => ?_) (fun c_22 => by exfalso; omega)
  refine nr_iconst hx hb 0 d_M_set_29 (by decide) ?_
  refine lv_istore (lv' := [(4, .int (nI 0)), (0, .ref (am 0)), (1, .int (nI p1)), (2, .int (nI d)), (3, .int (nI sf))]) hx hb d_M_set_30 hl (by decide) rfl (fun ls hl => ?_)
  refine lv_aload_n hx hb d_M_set_32 rfl (lv_at hl 1 rfl) ?_
  refine lv_iload hx hb d_M_set_33 (lv_at hl 0 rfl) ?_
  refine lv_iload hx hb d_M_set_35 (lv_at hl 0 rfl) ?_
  refine nr_if_ne (tgt := 52) hx hb (by omega) d_M_set_37 (by decide) (fun c_37 => by exfalso; omega) (fun c_37 => ?_)
  refine lv_iload_n hx hb d_M_set_40 rfl (lv_at hl 3 rfl) ?_
  refine lv_aload_n hx hb d_M_set_41 rfl (lv_at hl 1 rfl) ?_
  refine va_get (D := D) (ci := 3) (v := .int (nI (G 0 0))) (C := R_M) (T := F_M) (N := 26) hx hb htb u_M hown hK hP 0 rfl rfl 3 (by decide) (htb _ q582) (fun _ h9 => h9) rfl d_M_set_42 ?_
  refine nr_icmp_ge (tgt := 52) hx hb (by omega) (by omega) d_M_set_45 (by decide) (fun c_45 => ?_) (fun c_45 => by exfalso; omega)
  refine nr_iconst hx hb 0 d_M_set_52 (by decide) ?_
  refine nr_iconst hx hb 0 d_M_set_53 (by decide) ?_
  refine nr_iconst hx hb 0 d_M_set_54 (by decide) ?_
  refine nr_callwi (wr := ([] : va_W)) (va_runV (As := [.int (nI 0), .int (nI 0), .int (nI 0), .int (nI 0)]) (rest := []) ⟨hx, hb, hml, hown, hts⟩ (c_M_throwing l D am cm P G X 0 0 0 0 (by decide) (by decide) (by decide) (by decide) H.size) ⟨callB_of 4 hts (gTB q_M_throwing) rfl rfl rfl (htb _ q4) (htb _ q669) hd_M_throwing ⟨Nat.le_of_ble_eq_true rfl, Nat.le_of_ble_eq_true rfl⟩, (htb _ q671), (htb _ sel_M_throwing)⟩ ⟨rw_blind, va_recv (hK.sub (tys' := []) [] rfl) hP (ci := 3) (q0 := 0) rfl rfl, rw_pre hN (hP.sub (ws' := (wM am cm P G X)) [0, 1, 2, 3, 4, 5, 6, 7, 8, 9, 10, 11, 12, 13, 14] rfl) (hK.sub (tys' := (tM cm)) [0, 1, 2, 3, 4, 5, 6, 7, 8, 9, 10, 11, 12, 13] rfl) (hD.sub (ws' := (wM am cm P G X)) [0, 1, 2, 3, 4, 5, 6, 7, 8, 9, 10, 11, 12, 13, 14] (by decide) rfl)⟩ rfl rfl hl.1 rfl (lv_room (Nat.le_of_ble_eq_true rfl)) d_M_set_55 ⟨Nat.le_of_ble_eq_true rfl, Nat.le_of_ble_eq_true rfl⟩) hP hD hS hA [0, 1, 2, 3, 4, 5, 6, 7, 8, 9, 10, 11, 12, 13, 14] [] rfl rfl (by decide) (by decide) (fun r_4 u_4 H locs hr_4 hP hD hS => ?_)
  subst hr_4
  replace hP := hP.sub (ws' := wM am cm P G (up2 X 0 0 0)) [0, 1, 2, 3, 4, 5, 6, 7, 8, 9, 10, 11, 12, 13, 14] rfl
  replace hD := hD.sub (ws' := wM am cm P G (up2 X 0 0 0)) [0, 1, 2, 3, 4, 5, 6, 7, 8, 9, 10, 11, 12, 13, 14] (by decide) rfl
  refine nr_top (y := nI 0) rfl ?_
  refine nr_if_eq (tgt := 62) hx hb (by omega) d_M_set_58 (by decide) (fun c_58 => ?_) (fun c_58 => by exfalso; omega)
  refine lv_aload_n hx hb d_M_set_62 rfl (lv_at hl 1 rfl) ?_
  refine va_get (D := D) (ci := 3) (v := .ref (am 3)) (C := R_M) (T := F_M) (N := 26) hx hb htb u_M hown hK hP 0 rfl rfl 6 (by decide) (htb _ q585) (fun _ h9 => h9) rfl d_M_set_63 ?_
  refine nr_bipush hx hb 6 d_M_set_66 (by decide) ?_
  refine lv_iload_n hx hb d_M_set_68 rfl (lv_at hl 3 rfl) ?_
  refine nr_imul hx hb d_M_set_69 ?_
  refine nr_top (y := nI (d * 6)) (congrArg nI (Nat.mul_comm _ _)) ?_
  refine lv_iload_n hx hb d_M_set_70 rfl (lv_at hl 2 rfl) ?_
  refine nr_iadd hx hb d_M_set_71 ?_
  refine lv_iload_n hx hb d_M_set_72 rfl (lv_at hl 4 rfl) ?_
  refine nr_iast hx hb hK hP hD hS 3 2 rfl rfl (by omega) (by decide) d_M_set_73 (fun H locs hP hD hS => ?_)
  replace hP : va_P D cls (wM am cm P (up2 G 1 ((d * 6) + p1) sf) (up2 X 0 0 0)) H := hP
  replace hD : va_D A (wM am cm P (up2 G 1 ((d * 6) + p1) sf) (up2 X 0 0 0)) := hD
  exact W.vret hx hb hr (fun t ht hW => ⟨⟨(), rfl, trivial, by rw [ht]; exact hP, hD⟩, hS.F ht⟩) hS.2.2 d_M_set_74
set_option maxHeartbeats 4000000 in
set_option maxRecDepth 100000 in
theorem k_M_wish (l : Launch) (D : va_G) (am : Nat → Nat) (cm : Nat → ClassId) (P G X : Nat → Nat → Nat) (hP0 : okP P) (hG0 : okG G) (hX0 : okX X) (p1 d sf b wt : Nat) (hp : p1 < P 0 0) (hd : d < P 0 1) (hs3 : sf ≤ 3) (hb1 : b ≤ 1) (hw1 : 1 ≤ wt) (hw2 : wt ≤ 100) (hfr : G 0 0 ≤ d) (hw20 : P 0 5 < 20) (sz : Nat) : Met l y_M_wish w_M_wish { frames := 2, cells := 0, slots := 0, locals := 43 } (rw_P [.ref (am 0), .int (nI p1), .int (nI d), .int (nI sf), .int (nI b), .int (nI wt)] D (wM am cm P G X) (tM cm) sz) (rw_Qi (fun (r : Int32) (u : Unit) => r = nI (P 0 5)) D (wM am cm P G X) (fun u => wM am cm (up2 P 0 5 (P 0 5 + 1)) G (up2 (up2 (up2 (up2 (up2 (up2 X 0 0 0) 3 (P 0 5) p1) 4 (P 0 5) d) 5 (P 0 5) sf) 6 (P 0 5) b) 7 (P 0 5) wt)) sz) 0 0 (va_A (wM am cm P G X) sz) := by
  refine Met.ofW (cc := b_M_wish) (maxL := 7) (ret := (some .int)) (by decide) rfl ?_
  intro p e s m args below meth c s₁ B hml hv
  obtain ⟨rfl, hsz, hN, hP, hK, hD0⟩ := hv
  have hx := B.exec
  have hb := B.bytes
  have hr := B.returns
  have hts := atoms_spec (ws := w_M_wish) B.pre
  have htb : ∀ w ∈ TBG, w.before [.ref (am 0), .int (nI p1), .int (nI d), .int (nI sf), .int (nI b), .int (nI wt)].toArray s = true := fun w h => hts w (List.mem_cons_of_mem _ h)
  have hown : s.vm.findClass R_M = some m.cls := findClass_of_methodNamed B.named
  have hlocks := B.notSynchronized
  subst hsz
  have hD := hD0.self (sz := s.heap.size)
  unfold rw_Qi
  generalize hAe : va_A (wM am cm P G X) s.heap.size = A at hD ⊢
  have hA : ∀ q : Nat, s.heap.size ≤ q → A q := fun q h => by rw [← hAe]; exact Or.inr h
  have hS : va_S A s.heap s.heap [] := va_S.rf
  have hl := lv_entry ([.ref (am 0), .int (nI p1), .int (nI d), .int (nI sf), .int (nI b), .int (nI wt)]) (n := 7) (Nat.le_of_ble_eq_true rfl)
  rw [lg_entry_eq]
  generalize (lg_sl ([.ref (am 0), .int (nI p1), .int (nI d), .int (nI sf), .int (nI b), .int (nI wt)]) ++ List.replicate (7 - (lg_sl ([.ref (am 0), .int (nI p1), .int (nI d), .int (nI sf), .int (nI b), .int (nI wt)])).length) Slot.unset).toArray = ls at hl ⊢
  have hl : lv_has ls 7 [(0, .ref (am 0)), (1, .int (nI p1)), (2, .int (nI d)), (3, .int (nI sf)), (4, .int (nI b)), (5, .int (nI wt))] := hl
  refine nr_start hP hS (fun H locs hP hS => ?_)
  obtain ⟨h00, h01, h02, h03, h04, h05, hp1, hp2, hp3, hp4, hp5, hp6⟩ := id hP0
  obtain ⟨k00, k01, hg1, hg2⟩ := id hG0
  obtain ⟨x00, x01, x02, x03, hx1, hx2, hx3, hx4, hx5, hx6, hx7⟩ := id hX0
  refine lv_aload_n hx hb d_M_wish_0 rfl (lv_at hl 0 rfl) ?_
  refine lv_iload_n hx hb d_M_wish_1 rfl (lv_at hl 1 rfl) ?_
  refine nr_calli (va_runV (As := [.int (nI p1)]) (rest := []) ⟨hx, hb, hml, hown, hts⟩ (c_M_isPerson l D am cm P G X (am 3) (cm 2) (G 1) hP0 hG0 hX0 hg1 (nI p1)) ⟨callB_of 1 hts (gTB q_M_isPerson) rfl rfl rfl (htb _ q4) (htb _ q693) hd_M_isPerson ⟨Nat.le_of_ble_eq_true rfl, Nat.le_of_ble_eq_true rfl⟩, (htb _ q695), (htb _ sel_M_isPerson)⟩ ⟨ro_blind, va_recv (hK.sub (tys' := []) [] rfl) hP (ci := 3) (q0 := 0) rfl rfl, ro_pre hN (hP.sub (ws' := (wMS am cm P G X (am 3) (cm 2) (G 1))) [0, 1, 2, 3, 4, 5, 6, 7, 8, 9, 10, 11, 12, 13, 14, 3] rfl) (hK.sub (tys' := (tMS cm (cm 2))) [0, 1, 2, 3, 4, 5, 6, 7, 8, 9, 10, 11, 12, 13, 2] rfl)⟩ rfl rfl hl.1 rfl (lv_room (Nat.le_of_ble_eq_true rfl)) d_M_wish_2 ⟨Nat.le_of_ble_eq_true rfl, Nat.le_of_ble_eq_true rfl⟩) (fun r_1 hr_1 => ?_)
  subst hr_1
  refine nr_top (y := nI 1) (by rw [inR_n hp (by omega)]; rfl) ?_
  refine nr_if_eq (tgt := 25) hx hb (by omega) d_M_wish_5 (by decide) (fun c_5 => by exfalso; omega) (fun c_5 => ?_)
  refine lv_aload_n hx hb d_M_wish_8 rfl (lv_at hl 0 rfl) ?_
  refine lv_iload_n hx hb d_M_wish_9 rfl (lv_at hl 2 rfl) ?_
  refine nr_calli (va_runV (As := [.int (nI d)]) (rest := []) ⟨hx, hb, hml, hown, hts⟩ (c_M_isDay l D am cm P G X (am 3) (cm 2) (G 1) hP0 hG0 hX0 hg1 (nI d)) ⟨callB_of 1 hts (gTB q_M_isDay) rfl rfl rfl (htb _ q4) (htb _ q681) hd_M_isDay ⟨Nat.le_of_ble_eq_true rfl, Nat.le_of_ble_eq_true rfl⟩, (htb _ q683), (htb _ sel_M_isDay)⟩ ⟨ro_blind, va_recv (hK.sub (tys' := []) [] rfl) hP (ci := 3) (q0 := 0) rfl rfl, ro_pre hN (hP.sub (ws' := (wMS am cm P G X (am 3) (cm 2) (G 1))) [0, 1, 2, 3, 4, 5, 6, 7, 8, 9, 10, 11, 12, 13, 14, 3] rfl) (hK.sub (tys' := (tMS cm (cm 2))) [0, 1, 2, 3, 4, 5, 6, 7, 8, 9, 10, 11, 12, 13, 2] rfl)⟩ rfl rfl hl.1 rfl (lv_room (Nat.le_of_ble_eq_true rfl)) d_M_wish_10 ⟨Nat.le_of_ble_eq_true rfl, Nat.le_of_ble_eq_true rfl⟩) (fun r_2 hr_2 => ?_)
  subst hr_2
  refine nr_top (y := nI 1) (by rw [inR_n hd (by omega)]; rfl) ?_
  refine nr_if_eq (tgt := 25) hx hb (by omega) d_M_wish_13 (by decide) (fun c_13 => by exfalso; omega) (fun c_13 => ?_)
  refine lv_iload_n hx hb d_M_wish_16 rfl (lv_at hl 3 rfl) ?_
  refine nr_iconst hx hb 0 d_M_wish_17 (by decide) ?_
  refine nr_iconst hx hb 3 d_M_wish_18 (by decide) ?_
  refine nr_calli (va_runS (As := [.int (nI sf), .int (nI 0), .int (nI 3)]) (rest := []) ⟨hx, hb, hml, hown, hts⟩ (c_M_in l D (nI sf) (nI 0) (nI 3)) ⟨callB_of 3 hts (gTB q_M_in) rfl rfl rfl (htb _ q4) (htb _ q666) hd_M_in ⟨Nat.le_of_ble_eq_true rfl, Nat.le_of_ble_eq_true rfl⟩, (htb _ q667)⟩ ⟨ro_blind, ro_pre hN (hP.sub (ws' := []) [] rfl) (hK.sub (tys' := []) [] rfl)⟩ rfl rfl hl.1 rfl (lv_room (Nat.le_of_ble_eq_true rfl)) d_M_wish_19 ⟨Nat.le_of_ble_eq_true rfl, Nat.le_of_ble_eq_true rfl⟩) (fun r_3 hr_3 => ?_)
  subst hr_3
  refine nr_top (y := nI 1) (by rw [in_n (by omega) hs3 (by omega)]; rfl) ?_
  refine nr_if_ne (tgt := 29) hx hb (by omega) d_M_wish_22 (by decide) (fun c_22 => ?_) (fun c_22 => by exfalso; omega)
  refine nr_iconst hx hb 0 d_M_wish_29 (by decide) ?_
  refine lv_istore (lv' := [(6, .int (nI 0)), (0, .ref (am 0)), (1, .int (nI p1)), (2, .int (nI d)), (3, .int (nI sf)), (4, .int (nI b)), (5, .int (nI wt))]) hx hb d_M_wish_30 hl (by decide) rfl (fun ls hl => ?_)
  refine lv_aload_n hx hb d_M_wish_32 rfl (lv_at hl 1 rfl) ?_
  refine lv_iload hx hb d_M_wish_33 (lv_at hl 0 rfl) ?_
  refine lv_iload hx hb d_M_wish_35 (lv_at hl 6 rfl) ?_
  refine nr_iconst hx hb 1 d_M_wish_37 (by decide) ?_
  refine nr_bipush hx hb 100 d_M_wish_38 (by decide) ?_
  refine nr_calli (va_runS (As := [.int (nI wt), .int (nI 1), .int (nI 100)]) (rest := [.int (nI 0), .ref (am 0)]) ⟨hx, hb, hml, hown, hts⟩ (c_M_in l D (nI wt) (nI 1) (nI 100)) ⟨callB_of 3 hts (gTB q_M_in) rfl rfl rfl (htb _ q4) (htb _ q666) hd_M_in ⟨Nat.le_of_ble_eq_true rfl, Nat.le_of_ble_eq_true rfl⟩, (htb _ q667)⟩ ⟨ro_blind, ro_pre hN (hP.sub (ws' := []) [] rfl) (hK.sub (tys' := []) [] rfl)⟩ rfl rfl hl.1 rfl (lv_room (Nat.le_of_ble_eq_true rfl)) d_M_wish_40 ⟨Nat.le_of_ble_eq_true rfl, Nat.le_of_ble_eq_true rfl⟩) (fun r_4 hr_4 => ?_)
  subst hr_4
  refine nr_top (y := nI 1) (by rw [in_n hw1 hw2 (by omega)]; rfl) ?_
  refine nr_if_ne (tgt := 50) hx hb (by omega) d_M_wish_43 (by decide) (fun c_43 => ?_) (fun c_43 => by exfalso; omega)
  refine nr_iconst hx hb 0 d_M_wish_50 (by decide) ?_
  refine lv_iload hx hb d_M_wish_51 (lv_at hl 0 rfl) ?_
  refine nr_if_ne (tgt := 68) hx hb (by omega) d_M_wish_53 (by decide) (fun c_53 => by exfalso; omega) (fun c_53 => ?_)
  refine lv_iload_n hx hb d_M_wish_56 rfl (lv_at hl 3 rfl) ?_
  refine lv_aload_n hx hb d_M_wish_57 rfl (lv_at hl 1 rfl) ?_
  refine va_get (D := D) (ci := 3) (v := .int (nI (G 0 0))) (C := R_M) (T := F_M) (N := 26) hx hb htb u_M hown hK hP 0 rfl rfl 3 (by decide) (htb _ q582) (fun _ h9 => h9) rfl d_M_wish_58 ?_
  refine nr_icmp_ge (tgt := 68) hx hb (by omega) (by omega) d_M_wish_61 (by decide) (fun c_61 => ?_) (fun c_61 => by exfalso; omega)
  refine nr_iconst hx hb 0 d_M_wish_68 (by decide) ?_
  refine lv_aload_n hx hb d_M_wish_69 rfl (lv_at hl 1 rfl) ?_
  refine va_get (D := D) (ci := 3) (v := .int (nI (P 0 5))) (C := R_M) (T := F_M) (N := 26) hx hb htb u_M hown hK hP 0 rfl rfl 17 (by decide) (htb _ q596) (fun _ h9 => h9) rfl d_M_wish_70 ?_
  refine nr_bipush hx hb 20 d_M_wish_73 (by decide) ?_
  refine nr_icmp_ne (tgt := 82) hx hb (by omega) (by omega) d_M_wish_75 (by decide) (fun c_75 => ?_) (fun c_75 => by exfalso; omega)
  refine nr_iconst hx hb 0 d_M_wish_82 (by decide) ?_
  refine nr_callwi (wr := ([] : va_W)) (va_runV (As := [.int (nI 0), .int (nI 0), .int (nI 0), .int (nI 0)]) (rest := []) ⟨hx, hb, hml, hown, hts⟩ (c_M_throwing l D am cm P G X 0 0 0 0 (by decide) (by decide) (by decide) (by decide) H.size) ⟨callB_of 4 hts (gTB q_M_throwing) rfl rfl rfl (htb _ q4) (htb _ q669) hd_M_throwing ⟨Nat.le_of_ble_eq_true rfl, Nat.le_of_ble_eq_true rfl⟩, (htb _ q671), (htb _ sel_M_throwing)⟩ ⟨rw_blind, va_recv (hK.sub (tys' := []) [] rfl) hP (ci := 3) (q0 := 0) rfl rfl, rw_pre hN (hP.sub (ws' := (wM am cm P G X)) [0, 1, 2, 3, 4, 5, 6, 7, 8, 9, 10, 11, 12, 13, 14] rfl) (hK.sub (tys' := (tM cm)) [0, 1, 2, 3, 4, 5, 6, 7, 8, 9, 10, 11, 12, 13] rfl) (hD.sub (ws' := (wM am cm P G X)) [0, 1, 2, 3, 4, 5, 6, 7, 8, 9, 10, 11, 12, 13, 14] (by decide) rfl)⟩ rfl rfl hl.1 rfl (lv_room (Nat.le_of_ble_eq_true rfl)) d_M_wish_83 ⟨Nat.le_of_ble_eq_true rfl, Nat.le_of_ble_eq_true rfl⟩) hP hD hS hA [0, 1, 2, 3, 4, 5, 6, 7, 8, 9, 10, 11, 12, 13, 14] [] rfl rfl (by decide) (by decide) (fun r_5 u_5 H locs hr_5 hP hD hS => ?_)
  subst hr_5
  replace hP := hP.sub (ws' := wM am cm P G (up2 X 0 0 0)) [0, 1, 2, 3, 4, 5, 6, 7, 8, 9, 10, 11, 12, 13, 14] rfl
  replace hD := hD.sub (ws' := wM am cm P G (up2 X 0 0 0)) [0, 1, 2, 3, 4, 5, 6, 7, 8, 9, 10, 11, 12, 13, 14] (by decide) rfl
  refine nr_top (y := nI 0) rfl ?_
  refine nr_if_eq (tgt := 91) hx hb (by omega) d_M_wish_86 (by decide) (fun c_86 => ?_) (fun c_86 => by exfalso; omega)
  refine lv_aload_n hx hb d_M_wish_91 rfl (lv_at hl 1 rfl) ?_
  refine va_get (D := D) (ci := 3) (v := .ref (am 10)) (C := R_M) (T := F_M) (N := 26) hx hb htb u_M hown hK hP 0 rfl rfl 18 (by decide) (htb _ q597) (fun _ h9 => h9) rfl d_M_wish_92 ?_
  refine lv_aload_n hx hb d_M_wish_95 rfl (lv_at hl 1 rfl) ?_
  refine va_get (D := D) (ci := 3) (v := .int (nI (P 0 5))) (C := R_M) (T := F_M) (N := 26) hx hb htb u_M hown hK hP 0 rfl rfl 17 (by decide) (htb _ q596) (fun _ h9 => h9) rfl d_M_wish_96 ?_
  refine lv_iload_n hx hb d_M_wish_99 rfl (lv_at hl 2 rfl) ?_
  refine nr_iast hx hb hK hP hD hS 10 9 rfl rfl (by omega) (by decide) d_M_wish_100 (fun H locs hP hD hS => ?_)
  replace hP : va_P D cls (wM am cm P G (up2 (up2 X 0 0 0) 3 (P 0 5) p1)) H := hP
  replace hD : va_D A (wM am cm P G (up2 (up2 X 0 0 0) 3 (P 0 5) p1)) := hD
  refine lv_aload_n hx hb d_M_wish_101 rfl (lv_at hl 1 rfl) ?_
  refine va_get (D := D) (ci := 3) (v := .ref (am 11)) (C := R_M) (T := F_M) (N := 26) hx hb htb u_M hown hK hP 0 rfl rfl 19 (by decide) (htb _ q598) (fun _ h9 => h9) rfl d_M_wish_102 ?_
  refine lv_aload_n hx hb d_M_wish_105 rfl (lv_at hl 1 rfl) ?_
  refine va_get (D := D) (ci := 3) (v := .int (nI (P 0 5))) (C := R_M) (T := F_M) (N := 26) hx hb htb u_M hown hK hP 0 rfl rfl 17 (by decide) (htb _ q596) (fun _ h9 => h9) rfl d_M_wish_106 ?_
  refine lv_iload_n hx hb d_M_wish_109 rfl (lv_at hl 3 rfl) ?_
  refine nr_iast hx hb hK hP hD hS 11 10 rfl rfl (by omega) (by decide) d_M_wish_110 (fun H locs hP hD hS => ?_)
  replace hP : va_P D cls (wM am cm P G (up2 (up2 (up2 X 0 0 0) 3 (P 0 5) p1) 4 (P 0 5) d)) H := hP
  replace hD : va_D A (wM am cm P G (up2 (up2 (up2 X 0 0 0) 3 (P 0 5) p1) 4 (P 0 5) d)) := hD
  refine lv_aload_n hx hb d_M_wish_111 rfl (lv_at hl 1 rfl) ?_
  refine va_get (D := D) (ci := 3) (v := .ref (am 12)) (C := R_M) (T := F_M) (N := 26) hx hb htb u_M hown hK hP 0 rfl rfl 20 (by decide) (htb _ q599) (fun _ h9 => h9) rfl d_M_wish_112 ?_
  refine lv_aload_n hx hb d_M_wish_115 rfl (lv_at hl 1 rfl) ?_
  refine va_get (D := D) (ci := 3) (v := .int (nI (P 0 5))) (C := R_M) (T := F_M) (N := 26) hx hb htb u_M hown hK hP 0 rfl rfl 17 (by decide) (htb _ q596) (fun _ h9 => h9) rfl d_M_wish_116 ?_
  refine lv_iload_n hx hb d_M_wish_119 rfl (lv_at hl 4 rfl) ?_
  refine nr_iast hx hb hK hP hD hS 12 11 rfl rfl (by omega) (by decide) d_M_wish_120 (fun H locs hP hD hS => ?_)
  replace hP : va_P D cls (wM am cm P G (up2 (up2 (up2 (up2 X 0 0 0) 3 (P 0 5) p1) 4 (P 0 5) d) 5 (P 0 5) sf)) H := hP
  replace hD : va_D A (wM am cm P G (up2 (up2 (up2 (up2 X 0 0 0) 3 (P 0 5) p1) 4 (P 0 5) d) 5 (P 0 5) sf)) := hD
  refine lv_aload_n hx hb d_M_wish_121 rfl (lv_at hl 1 rfl) ?_
  refine va_get (D := D) (ci := 3) (v := .ref (am 13)) (C := R_M) (T := F_M) (N := 26) hx hb htb u_M hown hK hP 0 rfl rfl 21 (by decide) (htb _ q600) (fun _ h9 => h9) rfl d_M_wish_122 ?_
  refine lv_aload_n hx hb d_M_wish_125 rfl (lv_at hl 1 rfl) ?_
  refine va_get (D := D) (ci := 3) (v := .int (nI (P 0 5))) (C := R_M) (T := F_M) (N := 26) hx hb htb u_M hown hK hP 0 rfl rfl 17 (by decide) (htb _ q596) (fun _ h9 => h9) rfl d_M_wish_126 ?_
  refine lv_iload hx hb d_M_wish_129 (lv_at hl 5 rfl) ?_
  refine nr_zast hx hb hK hP hD hS 13 12 rfl rfl (by omega) (by decide) (by omega) d_M_wish_131 (fun H locs hP hD hS => ?_)
  replace hP : va_P D cls (wM am cm P G (up2 (up2 (up2 (up2 (up2 X 0 0 0) 3 (P 0 5) p1) 4 (P 0 5) d) 5 (P 0 5) sf) 6 (P 0 5) b)) H := hP
  replace hD : va_D A (wM am cm P G (up2 (up2 (up2 (up2 (up2 X 0 0 0) 3 (P 0 5) p1) 4 (P 0 5) d) 5 (P 0 5) sf) 6 (P 0 5) b)) := hD
  refine lv_aload_n hx hb d_M_wish_132 rfl (lv_at hl 1 rfl) ?_
  refine va_get (D := D) (ci := 3) (v := .ref (am 14)) (C := R_M) (T := F_M) (N := 26) hx hb htb u_M hown hK hP 0 rfl rfl 22 (by decide) (htb _ q601) (fun _ h9 => h9) rfl d_M_wish_133 ?_
  refine lv_aload_n hx hb d_M_wish_136 rfl (lv_at hl 1 rfl) ?_
  refine va_get (D := D) (ci := 3) (v := .int (nI (P 0 5))) (C := R_M) (T := F_M) (N := 26) hx hb htb u_M hown hK hP 0 rfl rfl 17 (by decide) (htb _ q596) (fun _ h9 => h9) rfl d_M_wish_137 ?_
  refine lv_iload hx hb d_M_wish_140 (lv_at hl 6 rfl) ?_
  refine nr_iast hx hb hK hP hD hS 14 13 rfl rfl (by omega) (by decide) d_M_wish_142 (fun H locs hP hD hS => ?_)
  replace hP : va_P D cls (wM am cm P G (up2 (up2 (up2 (up2 (up2 (up2 X 0 0 0) 3 (P 0 5) p1) 4 (P 0 5) d) 5 (P 0 5) sf) 6 (P 0 5) b) 7 (P 0 5) wt)) H := hP
  replace hD : va_D A (wM am cm P G (up2 (up2 (up2 (up2 (up2 (up2 X 0 0 0) 3 (P 0 5) p1) 4 (P 0 5) d) 5 (P 0 5) sf) 6 (P 0 5) b) 7 (P 0 5) wt)) := hD
  refine lv_aload_n hx hb d_M_wish_143 rfl (lv_at hl 1 rfl) ?_
  refine lv_dup hx hb d_M_wish_144 rfl ?_
  refine va_get (D := D) (ci := 3) (v := .int (nI (P 0 5))) (C := R_M) (T := F_M) (N := 26) hx hb htb u_M hown hK hP 0 rfl rfl 17 (by decide) (htb _ q596) (fun _ h9 => h9) rfl d_M_wish_145 ?_
  refine nr_iconst hx hb 1 d_M_wish_148 (by decide) ?_
  refine nr_iadd hx hb d_M_wish_149 ?_
  refine va_put (D := D) (ci := 3) (v := .int (nI ((P 0 5) + 1))) (ty := .int) (C := R_M) (T := F_M) (N := 26) hx hb htb u_M t_M t_M_ok n_M hown hK hP hD hS 0 rfl rfl 17 (by decide) (htb _ q596) (fun _ h9 => h9) rfl (by decide +kernel) rfl rfl (Nat.le_of_ble_eq_true rfl) d_M_wish_150 (fun H locs hP hD hS => ?_)
  replace hP : va_P D cls (wM am cm (up2 P 0 5 ((P 0 5) + 1)) G (up2 (up2 (up2 (up2 (up2 (up2 X 0 0 0) 3 (P 0 5) p1) 4 (P 0 5) d) 5 (P 0 5) sf) 6 (P 0 5) b) 7 (P 0 5) wt)) H := hP
  replace hD : va_D A (wM am cm (up2 P 0 5 ((P 0 5) + 1)) G (up2 (up2 (up2 (up2 (up2 (up2 X 0 0 0) 3 (P 0 5) p1) 4 (P 0 5) d) 5 (P 0 5) sf) 6 (P 0 5) b) 7 (P 0 5) wt)) := hD
  refine lv_aload_n hx hb d_M_wish_153 rfl (lv_at hl 1 rfl) ?_
  refine va_get (D := D) (ci := 3) (v := .int (nI ((P 0 5) + 1))) (C := R_M) (T := F_M) (N := 26) hx hb htb u_M hown hK hP 0 rfl rfl 17 (by decide) (htb _ q596) (fun _ h9 => h9) rfl d_M_wish_154 ?_
  refine nr_iconst hx hb 1 d_M_wish_157 (by decide) ?_
  refine nr_isub hx hb (by omega) d_M_wish_158 ?_
  exact W.iret (v := (nI (((P 0 5) + 1) - 1))) hx hb hr (fun t ht hW => ⟨⟨_, (), rfl, congrArg nI (by omega), by rw [ht]; exact hP, hD⟩, hS.F ht⟩) hS.2.2 d_M_wish_159
set_option maxHeartbeats 4000000 in
set_option maxRecDepth 100000 in
theorem k_M_shift (l : Launch) (D : va_G) (am : Nat → Nat) (cm : Nat → ClassId) (P G X : Nat → Nat → Nat) (hP0 : okP P) (hG0 : okG G) (hX0 : okX X) (p1 d : Nat) (hp : p1 < P 0 0) (hd : d < P 0 1) (sz : Nat) : Met l y_M_shift w_M_shift { frames := 2, cells := 0, slots := 0, locals := 43 } (rw_P [.ref (am 0), .int (nI p1), .int (nI d)] D (wM am cm P G X) (tM cm) sz) (rw_Qi (fun (r : Int32) (u : Unit) => r = nI (G 1 (d * 6 + p1))) D (wM am cm P G X) (fun u => wM am cm P G (up2 X 0 0 0)) sz) 0 0 (va_A (wM am cm P G X) sz) := by
  refine Met.ofW (cc := b_M_shift) (maxL := 3) (ret := (some .int)) (by decide) rfl ?_
  intro p e s m args below meth c s₁ B hml hv
  obtain ⟨rfl, hsz, hN, hP, hK, hD0⟩ := hv
  have hx := B.exec
  have hb := B.bytes
  have hr := B.returns
  have hts := atoms_spec (ws := w_M_shift) B.pre
  have htb : ∀ w ∈ TBG, w.before [.ref (am 0), .int (nI p1), .int (nI d)].toArray s = true := fun w h => hts w (List.mem_cons_of_mem _ h)
  have hown : s.vm.findClass R_M = some m.cls := findClass_of_methodNamed B.named
  have hlocks := B.notSynchronized
  subst hsz
  have hD := hD0.self (sz := s.heap.size)
  unfold rw_Qi
  generalize hAe : va_A (wM am cm P G X) s.heap.size = A at hD ⊢
  have hA : ∀ q : Nat, s.heap.size ≤ q → A q := fun q h => by rw [← hAe]; exact Or.inr h
  have hS : va_S A s.heap s.heap [] := va_S.rf
  have hl := lv_entry ([.ref (am 0), .int (nI p1), .int (nI d)]) (n := 3) (Nat.le_of_ble_eq_true rfl)
  rw [lg_entry_eq]
  generalize (lg_sl ([.ref (am 0), .int (nI p1), .int (nI d)]) ++ List.replicate (3 - (lg_sl ([.ref (am 0), .int (nI p1), .int (nI d)])).length) Slot.unset).toArray = ls at hl ⊢
  have hl : lv_has ls 3 [(0, .ref (am 0)), (1, .int (nI p1)), (2, .int (nI d))] := hl
  refine nr_start hP hS (fun H locs hP hS => ?_)
  obtain ⟨h00, h01, h02, h03, h04, h05, hp1, hp2, hp3, hp4, hp5, hp6⟩ := id hP0
  obtain ⟨k00, k01, hg1, hg2⟩ := id hG0
  obtain ⟨x00, x01, x02, x03, hx1, hx2, hx3, hx4, hx5, hx6, hx7⟩ := id hX0
  refine lv_aload_n hx hb d_M_shift_0 rfl (lv_at hl 0 rfl) ?_
  refine lv_aload_n hx hb d_M_shift_1 rfl (lv_at hl 0 rfl) ?_
  refine lv_iload_n hx hb d_M_shift_2 rfl (lv_at hl 1 rfl) ?_
  refine nr_calli (va_runV (As := [.int (nI p1)]) (rest := [.ref (am 0)]) ⟨hx, hb, hml, hown, hts⟩ (c_M_isPerson l D am cm P G X (am 3) (cm 2) (G 1) hP0 hG0 hX0 hg1 (nI p1)) ⟨callB_of 1 hts (gTB q_M_isPerson) rfl rfl rfl (htb _ q4) (htb _ q693) hd_M_isPerson ⟨Nat.le_of_ble_eq_true rfl, Nat.le_of_ble_eq_true rfl⟩, (htb _ q695), (htb _ sel_M_isPerson)⟩ ⟨ro_blind, va_recv (hK.sub (tys' := []) [] rfl) hP (ci := 3) (q0 := 0) rfl rfl, ro_pre hN (hP.sub (ws' := (wMS am cm P G X (am 3) (cm 2) (G 1))) [0, 1, 2, 3, 4, 5, 6, 7, 8, 9, 10, 11, 12, 13, 14, 3] rfl) (hK.sub (tys' := (tMS cm (cm 2))) [0, 1, 2, 3, 4, 5, 6, 7, 8, 9, 10, 11, 12, 13, 2] rfl)⟩ rfl rfl hl.1 rfl (lv_room (Nat.le_of_ble_eq_true rfl)) d_M_shift_3 ⟨Nat.le_of_ble_eq_true rfl, Nat.le_of_ble_eq_true rfl⟩) (fun r_1 hr_1 => ?_)
  subst hr_1
  refine nr_top (y := nI 1) (by rw [inR_n hp (by omega)]; rfl) ?_
  refine nr_if_eq (tgt := 17) hx hb (by omega) d_M_shift_6 (by decide) (fun c_6 => by exfalso; omega) (fun c_6 => ?_)
  refine lv_aload_n hx hb d_M_shift_9 rfl (lv_at hl 0 rfl) ?_
  refine lv_iload_n hx hb d_M_shift_10 rfl (lv_at hl 2 rfl) ?_
  refine nr_calli (va_runV (As := [.int (nI d)]) (rest := [.ref (am 0)]) ⟨hx, hb, hml, hown, hts⟩ (c_M_isDay l D am cm P G X (am 3) (cm 2) (G 1) hP0 hG0 hX0 hg1 (nI d)) ⟨callB_of 1 hts (gTB q_M_isDay) rfl rfl rfl (htb _ q4) (htb _ q681) hd_M_isDay ⟨Nat.le_of_ble_eq_true rfl, Nat.le_of_ble_eq_true rfl⟩, (htb _ q683), (htb _ sel_M_isDay)⟩ ⟨ro_blind, va_recv (hK.sub (tys' := []) [] rfl) hP (ci := 3) (q0 := 0) rfl rfl, ro_pre hN (hP.sub (ws' := (wMS am cm P G X (am 3) (cm 2) (G 1))) [0, 1, 2, 3, 4, 5, 6, 7, 8, 9, 10, 11, 12, 13, 14, 3] rfl) (hK.sub (tys' := (tMS cm (cm 2))) [0, 1, 2, 3, 4, 5, 6, 7, 8, 9, 10, 11, 12, 13, 2] rfl)⟩ rfl rfl hl.1 rfl (lv_room (Nat.le_of_ble_eq_true rfl)) d_M_shift_11 ⟨Nat.le_of_ble_eq_true rfl, Nat.le_of_ble_eq_true rfl⟩) (fun r_2 hr_2 => ?_)
  subst hr_2
  refine nr_top (y := nI 1) (by rw [inR_n hd (by omega)]; rfl) ?_
  refine nr_if_ne (tgt := 21) hx hb (by omega) d_M_shift_14 (by decide) (fun c_14 => ?_) (fun c_14 => by exfalso; omega)
  refine nr_iconst hx hb 0 d_M_shift_21 (by decide) ?_
  refine nr_iconst hx hb 0 d_M_shift_22 (by decide) ?_
  refine nr_iconst hx hb 0 d_M_shift_23 (by decide) ?_
  refine nr_iconst hx hb 0 d_M_shift_24 (by decide) ?_
  refine nr_callwi (wr := ([] : va_W)) (va_runV (As := [.int (nI 0), .int (nI 0), .int (nI 0), .int (nI 0)]) (rest := []) ⟨hx, hb, hml, hown, hts⟩ (c_M_throwing l D am cm P G X 0 0 0 0 (by decide) (by decide) (by decide) (by decide) H.size) ⟨callB_of 4 hts (gTB q_M_throwing) rfl rfl rfl (htb _ q4) (htb _ q669) hd_M_throwing ⟨Nat.le_of_ble_eq_true rfl, Nat.le_of_ble_eq_true rfl⟩, (htb _ q671), (htb _ sel_M_throwing)⟩ ⟨rw_blind, va_recv (hK.sub (tys' := []) [] rfl) hP (ci := 3) (q0 := 0) rfl rfl, rw_pre hN (hP.sub (ws' := (wM am cm P G X)) [0, 1, 2, 3, 4, 5, 6, 7, 8, 9, 10, 11, 12, 13, 14] rfl) (hK.sub (tys' := (tM cm)) [0, 1, 2, 3, 4, 5, 6, 7, 8, 9, 10, 11, 12, 13] rfl) (hD.sub (ws' := (wM am cm P G X)) [0, 1, 2, 3, 4, 5, 6, 7, 8, 9, 10, 11, 12, 13, 14] (by decide) rfl)⟩ rfl rfl hl.1 rfl (lv_room (Nat.le_of_ble_eq_true rfl)) d_M_shift_25 ⟨Nat.le_of_ble_eq_true rfl, Nat.le_of_ble_eq_true rfl⟩) hP hD hS hA [0, 1, 2, 3, 4, 5, 6, 7, 8, 9, 10, 11, 12, 13, 14] [] rfl rfl (by decide) (by decide) (fun r_3 u_3 H locs hr_3 hP hD hS => ?_)
  subst hr_3
  replace hP := hP.sub (ws' := wM am cm P G (up2 X 0 0 0)) [0, 1, 2, 3, 4, 5, 6, 7, 8, 9, 10, 11, 12, 13, 14] rfl
  replace hD := hD.sub (ws' := wM am cm P G (up2 X 0 0 0)) [0, 1, 2, 3, 4, 5, 6, 7, 8, 9, 10, 11, 12, 13, 14] (by decide) rfl
  refine nr_top (y := nI 0) rfl ?_
  refine nr_if_eq (tgt := 33) hx hb (by omega) d_M_shift_28 (by decide) (fun c_28 => ?_) (fun c_28 => by exfalso; omega)
  refine lv_aload_n hx hb d_M_shift_33 rfl (lv_at hl 0 rfl) ?_
  refine va_get (D := D) (ci := 3) (v := .ref (am 3)) (C := R_M) (T := F_M) (N := 26) hx hb htb u_M hown hK hP 0 rfl rfl 6 (by decide) (htb _ q585) (fun _ h9 => h9) rfl d_M_shift_34 ?_
  refine nr_bipush hx hb 6 d_M_shift_37 (by decide) ?_
  refine lv_iload_n hx hb d_M_shift_39 rfl (lv_at hl 2 rfl) ?_
  refine nr_imul hx hb d_M_shift_40 ?_
  refine nr_top (y := nI (d * 6)) (congrArg nI (Nat.mul_comm _ _)) ?_
  refine lv_iload_n hx hb d_M_shift_41 rfl (lv_at hl 1 rfl) ?_
  refine nr_iadd hx hb d_M_shift_42 ?_
  refine nr_iald hx hb hK hP 3 2 rfl rfl (by omega) (by decide) d_M_shift_43 ?_
  exact W.iret (v := (nI (G 1 ((d * 6) + p1)))) hx hb hr (fun t ht hW => ⟨⟨_, (), rfl, rfl, by rw [ht]; exact hP, hD⟩, hS.F ht⟩) hS.2.2 d_M_shift_44

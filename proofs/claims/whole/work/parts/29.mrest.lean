theorem okx_0 {X : Nat → Nat → Nat} (h : okX X) : okX (up2 X 0 0 0) := by
  obtain ⟨x00, x01, x02, x03, hx1, hx2, hx3, hx4, hx5, hx6, hx7⟩ := h
  exact ⟨Nat.zero_le _, x01, x02, x03, hx1, hx2, hx3, hx4, hx5, hx6, hx7⟩
theorem co_cnt {sh : Nat → Nat} {p : Nat} : ∀ k d had, had = cnt sh p d → co sh p k d had = cnt sh p (d + k) := by
  intro k
  induction k with
  | zero => intro d had h; rw [co, h]; rfl
  | succ k ih =>
    intro d had h
    rw [co, show d + (k + 1) = d + 1 + k by omega]
    by_cases h0 : sh (d * 6 + p) = 0
    · rw [if_pos h0]; exact ih (d + 1) had (by rw [cnt, if_pos h0, h]; rfl)
    · rw [if_neg h0]; exact ih (d + 1) (had + 1) (by rw [cnt, if_neg h0, h])
theorem cost_eq {P : Nat → Nat → Nat} {sh : Nat → Nat} {p : Nat} (h : 0 < P 0 1) : P 2 p * 8 * cnt sh p (P 0 1 - 1 + 1) = costOne P sh p := by
  rw [costOne, co_cnt (P 0 1) 0 0 rfl, show P 0 1 - 1 + 1 = P 0 1 by omega, Nat.zero_add, Nat.mul_comm (cnt sh p (P 0 1)) 8, Nat.mul_comm (P 2 p) 8, Nat.mul_assoc, Nat.mul_assoc, Nat.mul_comm (P 2 p)]
theorem costOne_le {P : Nat → Nat → Nat} (h : okP P) (sh : Nat → Nat) (p : Nat) : costOne P sh p ≤ 560000 := by
  have h1 := cnt_le sh p (P 0 1)
  have h2 := h.2.1
  have h3 := h.2.2.2.2.2.2.2.1 p
  rw [costOne, co_cnt (P 0 1) 0 0 rfl, Nat.zero_add]
  calc cnt sh p (P 0 1) * 8 * P 2 p ≤ 7 * 8 * 10000 := Nat.mul_le_mul (by omega) h3
    _ ≤ 560000 := by decide
theorem ca1_le {P : Nat → Nat → Nat} (h : okP P) (sh : Nat → Nat) : ∀ k p acc, ca1 P sh k p acc ≤ acc + 560000 * k := by
  intro k
  induction k with
  | zero => intro p acc; simp [ca1]
  | succ k ih => intro p acc; rw [ca1]; have := ih (p + 1) (acc + costOne P sh p); have := costOne_le h sh p; omega
theorem costAll_le {P : Nat → Nat → Nat} (h : okP P) (sh : Nat → Nat) : costAll P sh ≤ 4000000 := by
  have h1 := ca1_le h sh (P 0 0) 0 0
  have h2 := h.1
  unfold costAll
  omega
theorem up_00 (X : Nat → Nat → Nat) : up2 (up2 X 0 0 0) 0 0 0 = up2 X 0 0 0 := by
  funext r k
  simp only [up2]
  split
  · split <;> rfl
  · rfl
theorem wM_00 {D : va_G} {am : Nat → Nat} {cm : Nat → ClassId} {P G X : Nat → Nat → Nat} {H : Heap} (h : va_P D cls (wM am cm P G (up2 (up2 X 0 0 0) 0 0 0)) H) : va_P D cls (wM am cm P G (up2 X 0 0 0)) H := by rw [up_00] at h; exact h
theorem wM_00D {A : Nat → Prop} {am : Nat → Nat} {cm : Nat → ClassId} {P G X : Nat → Nat → Nat} (h : va_D A (wM am cm P G (up2 (up2 X 0 0 0) 0 0 0))) : va_D A (wM am cm P G (up2 X 0 0 0)) := by rw [up_00] at h; exact h
section NL
variable {p : Program} {l : Launch} {e : Env} {R : Room} {s : State} {m : MethodId} {args : Array Value} {below : List Frame} {meth : Method} {c : Code} {H : Heap} {locs : List Loc} {cells slots : Nat} {Q : State → Prop} {cc : ByteArray} {pc : Nat} {ls : Array Slot} {rest : List Value}
theorem nr_i2l (hx : p.tables.exec = Jvm.exec) (hb : c.code = cc) {a : Nat} (ha : a < 2147483648) (hdg : decode cc pc = .ok (.i2l, 1)) (k : W p l e R s m args below meth c H locs cells slots Q (F0 m (pc + 1) ls (.long (lN a) :: rest))) : W p l e R s m args below meth c H locs cells slots Q (F0 m pc ls (.int (nI a) :: rest)) := lv_i2l hx hb hdg (nI_l ha) k
theorem nr_l2i (hx : p.tables.exec = Jvm.exec) (hb : c.code = cc) {a : Nat} (hdg : decode cc pc = .ok (.l2i, 1)) (k : W p l e R s m args below meth c H locs cells slots Q (F0 m (pc + 1) ls (.int (nI a) :: rest))) : W p l e R s m args below meth c H locs cells slots Q (F0 m pc ls (.long (lN a) :: rest)) := lv_l2i hx hb hdg (lN_i a) k
theorem nr_topm {x y : Int64} (h : x = y) (k : W p l e R s m args below meth c H locs cells slots Q (F0 m pc ls (.long y :: rest))) : W p l e R s m args below meth c H locs cells slots Q (F0 m pc ls (.long x :: rest)) := by subst h; exact k
theorem nr_lmul (hx : p.tables.exec = Jvm.exec) (hb : c.code = cc) {a b : Nat} (hdg : decode cc pc = .ok (.lmul, 1)) (k : W p l e R s m args below meth c H locs cells slots Q (F0 m (pc + 1) ls (.long (lN (a * b)) :: rest))) : W p l e R s m args below meth c H locs cells slots Q (F0 m pc ls (.long (lN b) :: .long (lN a) :: rest)) := lv_lmul hx hb hdg (nr_topm (lN_mul a b) k)
theorem nr_ldiv (hx : p.tables.exec = Jvm.exec) (hb : c.code = cc) {a b : Nat} (ha : a < 9223372036854775808) (h0 : 0 < b) (hb2 : b < 9223372036854775808) (hdg : decode cc pc = .ok (.ldiv, 1)) (k : W p l e R s m args below meth c H locs cells slots Q (F0 m (pc + 1) ls (.long (lN (a / b)) :: rest))) : W p l e R s m args below meth c H locs cells slots Q (F0 m pc ls (.long (lN b) :: .long (lN a) :: rest)) := lv_ldiv hx hb hdg (fun q => absurd ((pk_lEQ hb2 (by decide : 0 < 2 ^ 63)).mp (show lN b = lN 0 from q)) (by omega)) (nr_topm (pk_lDiv ha h0 hb2) k)
end NL
set_option maxHeartbeats 4000000 in
set_option maxRecDepth 100000 in
theorem k_M_unmet (l : Launch) (D : va_G) (am : Nat → Nat) (cm : Nat → ClassId) (P G X : Nat → Nat → Nat) (hP0 : okP P) (hG0 : okG G) (hX0 : okX X) (sz : Nat) : Met l y_M_unmet w_M_unmet { frames := 1, cells := 0, slots := 0, locals := 25 } (rw_P [.ref (am 0)] D (wM am cm P G X) (tM cm) sz) (rw_Qi (fun (r : Int32) (u : Unit) => r = nI (utM P X (G 1) 42)) D (wM am cm P G X) (fun u => wM am cm P G (up2 X 0 0 0)) sz) 0 0 (va_A (wM am cm P G X) sz) := by
  refine Met.ofW (cc := b_M_unmet) (maxL := 1) (ret := (some .int)) (by decide) rfl ?_
  intro p e s m args below meth c s₁ B hml hv
  obtain ⟨rfl, hsz, hN, hP, hK, hD0⟩ := hv
  have hx := B.exec
  have hb := B.bytes
  have hr := B.returns
  have hts := atoms_spec (ws := w_M_unmet) B.pre
  have htb : ∀ w ∈ TBG, w.before [.ref (am 0)].toArray s = true := fun w h => hts w (List.mem_cons_of_mem _ h)
  have hown : s.vm.findClass R_M = some m.cls := findClass_of_methodNamed B.named
  have hlocks := B.notSynchronized
  subst hsz
  have hD := hD0.self (sz := s.heap.size)
  unfold rw_Qi
  generalize hAe : va_A (wM am cm P G X) s.heap.size = A at hD ⊢
  have hA : ∀ q : Nat, s.heap.size ≤ q → A q := fun q h => by rw [← hAe]; exact Or.inr h
  have hS : va_S A s.heap s.heap [] := va_S.rf
  have hl := lv_entry ([.ref (am 0)]) (n := 1) (Nat.le_of_ble_eq_true rfl)
  rw [lg_entry_eq]
  generalize (lg_sl ([.ref (am 0)]) ++ List.replicate (1 - (lg_sl ([.ref (am 0)])).length) Slot.unset).toArray = ls at hl ⊢
  have hl : lv_has ls 1 [(0, .ref (am 0))] := hl
  refine nr_start hP hS (fun H locs hP hS => ?_)
  obtain ⟨h00, h01, h02, h03, h04, h05, hp1, hp2, hp3, hp4, hp5, hp6⟩ := id hP0
  obtain ⟨k00, k01, hg1, hg2⟩ := id hG0
  obtain ⟨x00, x01, x02, x03, hx1, hx2, hx3, hx4, hx5, hx6, hx7⟩ := id hX0
  refine lv_aload_n hx hb d_M_unmet_0 rfl (lv_at hl 0 rfl) ?_
  refine nr_iconst hx hb 0 d_M_unmet_1 (by decide) ?_
  refine va_put (D := D) (ci := 3) (v := .int (nI 0)) (ty := .int) (C := R_M) (T := F_M) (N := 26) hx hb htb u_M t_M t_M_ok n_M hown hK hP hD hS 0 rfl rfl 0 (by decide) (htb _ q579) (fun _ h9 => h9) rfl (by decide +kernel) rfl rfl (Nat.le_of_ble_eq_true rfl) d_M_unmet_2 (fun H locs hP hD hS => ?_)
  replace hP : va_P D cls (wM am cm P G (up2 X 0 0 0)) H := hP
  replace hD : va_D A (wM am cm P G (up2 X 0 0 0)) := hD
  refine lv_aload_n hx hb d_M_unmet_5 rfl (lv_at hl 0 rfl) ?_
  refine lv_aload_n hx hb d_M_unmet_6 rfl (lv_at hl 0 rfl) ?_
  refine va_get (D := D) (ci := 3) (v := .ref (am 3)) (C := R_M) (T := F_M) (N := 26) hx hb htb u_M hown hK hP 0 rfl rfl 6 (by decide) (htb _ q585) (fun _ h9 => h9) rfl d_M_unmet_7 ?_
  refine nr_bipush hx hb 42 d_M_unmet_10 (by decide) ?_
  refine nr_calli (va_runV (As := [.ref (am 3), .int (nI 42)]) (rest := []) ⟨hx, hb, hml, hown, hts⟩ (c_M_unmetTo l D am cm P G (up2 X 0 0 0) (am 3) (cm 2) (G 1) hP0 hG0 (okx_0 hX0) hg1 42 (by omega)) ⟨callB_of 2 hts (gTB q_M_unmetTo) rfl rfl rfl (htb _ q4) (htb _ q742) hd_M_unmetTo ⟨Nat.le_of_ble_eq_true rfl, Nat.le_of_ble_eq_true rfl⟩, (htb _ q744), (htb _ sel_M_unmetTo)⟩ ⟨ro_blind, va_recv (hK.sub (tys' := []) [] rfl) hP (ci := 3) (q0 := 0) rfl rfl, ro_pre hN (hP.sub (ws' := (wMS am cm P G (up2 X 0 0 0) (am 3) (cm 2) (G 1))) [0, 1, 2, 3, 4, 5, 6, 7, 8, 9, 10, 11, 12, 13, 14, 3] rfl) (hK.sub (tys' := (tMS cm (cm 2))) [0, 1, 2, 3, 4, 5, 6, 7, 8, 9, 10, 11, 12, 13, 2] rfl)⟩ rfl rfl hl.1 rfl (lv_room (Nat.le_of_ble_eq_true rfl)) d_M_unmet_12 ⟨Nat.le_of_ble_eq_true rfl, Nat.le_of_ble_eq_true rfl⟩) (fun r_1 hr_1 => ?_)
  subst hr_1
  exact W.iret (v := (nI (utM P (up2 X 0 0 0) (G 1) 42))) hx hb hr (fun t ht hW => ⟨⟨_, (), rfl, congrArg nI (utM_congr (fun r hr => by funext k; simp only [up2]; rw [if_neg (show ¬ r = 0 by omega)])), by rw [ht]; exact hP, hD⟩, hS.F ht⟩) hS.2.2 d_M_unmet_15
set_option maxHeartbeats 4000000 in
set_option maxRecDepth 100000 in
theorem k_M_wrong (l : Launch) (D : va_G) (am : Nat → Nat) (cm : Nat → ClassId) (P G X : Nat → Nat → Nat) (hP0 : okP P) (hG0 : okG G) (hX0 : okX X) (hb0 : ∀ c, P 5 (c * 4) = 0) (sz : Nat) : Met l y_M_wrong w_M_wrong { frames := 3, cells := 0, slots := 0, locals := 73 } (rw_P [.ref (am 0)] D (wM am cm P G X) (tM cm) sz) (rw_Qi (fun (r : Int32) (u : Unit) => r = nI (firstFault P (G 1))) D (wM am cm P G X) (fun u => wM am cm P G (up2 X 0 0 0)) sz) 0 0 (va_A (wM am cm P G X) sz) := by
  refine Met.ofW (cc := b_M_wrong) (maxL := 1) (ret := (some .int)) (by decide) rfl ?_
  intro p e s m args below meth c s₁ B hml hv
  obtain ⟨rfl, hsz, hN, hP, hK, hD0⟩ := hv
  have hx := B.exec
  have hb := B.bytes
  have hr := B.returns
  have hts := atoms_spec (ws := w_M_wrong) B.pre
  have htb : ∀ w ∈ TBG, w.before [.ref (am 0)].toArray s = true := fun w h => hts w (List.mem_cons_of_mem _ h)
  have hown : s.vm.findClass R_M = some m.cls := findClass_of_methodNamed B.named
  have hlocks := B.notSynchronized
  subst hsz
  have hD := hD0.self (sz := s.heap.size)
  unfold rw_Qi
  generalize hAe : va_A (wM am cm P G X) s.heap.size = A at hD ⊢
  have hA : ∀ q : Nat, s.heap.size ≤ q → A q := fun q h => by rw [← hAe]; exact Or.inr h
  have hS : va_S A s.heap s.heap [] := va_S.rf
  have hl := lv_entry ([.ref (am 0)]) (n := 1) (Nat.le_of_ble_eq_true rfl)
  rw [lg_entry_eq]
  generalize (lg_sl ([.ref (am 0)]) ++ List.replicate (1 - (lg_sl ([.ref (am 0)])).length) Slot.unset).toArray = ls at hl ⊢
  have hl : lv_has ls 1 [(0, .ref (am 0))] := hl
  refine nr_start hP hS (fun H locs hP hS => ?_)
  obtain ⟨h00, h01, h02, h03, h04, h05, hp1, hp2, hp3, hp4, hp5, hp6⟩ := id hP0
  obtain ⟨k00, k01, hg1, hg2⟩ := id hG0
  obtain ⟨x00, x01, x02, x03, hx1, hx2, hx3, hx4, hx5, hx6, hx7⟩ := id hX0
  refine lv_aload_n hx hb d_M_wrong_0 rfl (lv_at hl 0 rfl) ?_
  refine nr_iconst hx hb 0 d_M_wrong_1 (by decide) ?_
  refine va_put (D := D) (ci := 3) (v := .int (nI 0)) (ty := .int) (C := R_M) (T := F_M) (N := 26) hx hb htb u_M t_M t_M_ok n_M hown hK hP hD hS 0 rfl rfl 0 (by decide) (htb _ q579) (fun _ h9 => h9) rfl (by decide +kernel) rfl rfl (Nat.le_of_ble_eq_true rfl) d_M_wrong_2 (fun H locs hP hD hS => ?_)
  replace hP : va_P D cls (wM am cm P G (up2 X 0 0 0)) H := hP
  replace hD : va_D A (wM am cm P G (up2 X 0 0 0)) := hD
  refine lv_aload_n hx hb d_M_wrong_5 rfl (lv_at hl 0 rfl) ?_
  refine lv_aload_n hx hb d_M_wrong_6 rfl (lv_at hl 0 rfl) ?_
  refine va_get (D := D) (ci := 3) (v := .ref (am 3)) (C := R_M) (T := F_M) (N := 26) hx hb htb u_M hown hK hP 0 rfl rfl 6 (by decide) (htb _ q585) (fun _ h9 => h9) rfl d_M_wrong_7 ?_
  refine nr_calli (va_runV (As := [.ref (am 3)]) (rest := []) ⟨hx, hb, hml, hown, hts⟩ (c_M_wrongWith l D am cm P G (up2 X 0 0 0) (am 3) (cm 2) (G 1) hP0 hG0 (okx_0 hX0) hg1 hb0) ⟨callB_of 1 hts (gTB q_M_wrongWith) rfl rfl rfl (htb _ q4) (htb _ q754) hd_M_wrongWith ⟨Nat.le_of_ble_eq_true rfl, Nat.le_of_ble_eq_true rfl⟩, (htb _ q756), (htb _ sel_M_wrongWith)⟩ ⟨ro_blind, va_recv (hK.sub (tys' := []) [] rfl) hP (ci := 3) (q0 := 0) rfl rfl, ro_pre hN (hP.sub (ws' := (wMS am cm P G (up2 X 0 0 0) (am 3) (cm 2) (G 1))) [0, 1, 2, 3, 4, 5, 6, 7, 8, 9, 10, 11, 12, 13, 14, 3] rfl) (hK.sub (tys' := (tMS cm (cm 2))) [0, 1, 2, 3, 4, 5, 6, 7, 8, 9, 10, 11, 12, 13, 2] rfl)⟩ rfl rfl hl.1 rfl (lv_room (Nat.le_of_ble_eq_true rfl)) d_M_wrong_10 ⟨Nat.le_of_ble_eq_true rfl, Nat.le_of_ble_eq_true rfl⟩) (fun r_1 hr_1 => ?_)
  subst hr_1
  exact W.iret (v := (nI (firstFault P (G 1)))) hx hb hr (fun t ht hW => ⟨⟨_, (), rfl, rfl, by rw [ht]; exact hP, hD⟩, hS.F ht⟩) hS.2.2 d_M_wrong_13
set_option maxHeartbeats 4000000 in
set_option maxRecDepth 100000 in
theorem k_M_solved (l : Launch) (D : va_G) (am : Nat → Nat) (cm : Nat → ClassId) (P G X : Nat → Nat → Nat) (hP0 : okP P) (hG0 : okG G) (hX0 : okX X) (x : Nat) (hxs : x ≤ 2) (sz : Nat) : Met l y_M_solved w_M_solved { frames := 1, cells := 0, slots := 0, locals := 24 } (rw_P [.ref (am 0), .int (nI x)] D (wM am cm P G X) (tM cm) sz) (rw_Qi (fun (r : Int32) (u : Unit) => r = nI (if x = 0 then X 0 1 else if x = 1 then X 0 2 else X 0 3)) D (wM am cm P G X) (fun u => wM am cm P G (up2 X 0 0 0)) sz) 0 0 (va_A (wM am cm P G X) sz) := by
  refine Met.ofW (cc := b_M_solved) (maxL := 2) (ret := (some .int)) (by decide) rfl ?_
  intro p e s m args below meth c s₁ B hml hv
  obtain ⟨rfl, hsz, hN, hP, hK, hD0⟩ := hv
  have hx := B.exec
  have hb := B.bytes
  have hr := B.returns
  have hts := atoms_spec (ws := w_M_solved) B.pre
  have htb : ∀ w ∈ TBG, w.before [.ref (am 0), .int (nI x)].toArray s = true := fun w h => hts w (List.mem_cons_of_mem _ h)
  have hown : s.vm.findClass R_M = some m.cls := findClass_of_methodNamed B.named
  have hlocks := B.notSynchronized
  subst hsz
  have hD := hD0.self (sz := s.heap.size)
  unfold rw_Qi
  generalize hAe : va_A (wM am cm P G X) s.heap.size = A at hD ⊢
  have hA : ∀ q : Nat, s.heap.size ≤ q → A q := fun q h => by rw [← hAe]; exact Or.inr h
  have hS : va_S A s.heap s.heap [] := va_S.rf
  have hl := lv_entry ([.ref (am 0), .int (nI x)]) (n := 2) (Nat.le_of_ble_eq_true rfl)
  rw [lg_entry_eq]
  generalize (lg_sl ([.ref (am 0), .int (nI x)]) ++ List.replicate (2 - (lg_sl ([.ref (am 0), .int (nI x)])).length) Slot.unset).toArray = ls at hl ⊢
  have hl : lv_has ls 2 [(0, .ref (am 0)), (1, .int (nI x))] := hl
  refine nr_start hP hS (fun H locs hP hS => ?_)
  obtain ⟨h00, h01, h02, h03, h04, h05, hp1, hp2, hp3, hp4, hp5, hp6⟩ := id hP0
  obtain ⟨k00, k01, hg1, hg2⟩ := id hG0
  obtain ⟨x00, x01, x02, x03, hx1, hx2, hx3, hx4, hx5, hx6, hx7⟩ := id hX0
  refine lv_aload_n hx hb d_M_solved_0 rfl (lv_at hl 0 rfl) ?_
  refine lv_iload_n hx hb d_M_solved_1 rfl (lv_at hl 1 rfl) ?_
  refine nr_iconst hx hb 0 d_M_solved_2 (by decide) ?_
  refine nr_iconst hx hb 2 d_M_solved_3 (by decide) ?_
  refine nr_calli (va_runS (As := [.int (nI x), .int (nI 0), .int (nI 2)]) (rest := [.ref (am 0)]) ⟨hx, hb, hml, hown, hts⟩ (c_M_in l D (nI x) (nI 0) (nI 2)) ⟨callB_of 3 hts (gTB q_M_in) rfl rfl rfl (htb _ q4) (htb _ q666) hd_M_in ⟨Nat.le_of_ble_eq_true rfl, Nat.le_of_ble_eq_true rfl⟩, (htb _ q667)⟩ ⟨ro_blind, ro_pre hN (hP.sub (ws' := []) [] rfl) (hK.sub (tys' := []) [] rfl)⟩ rfl rfl hl.1 rfl (lv_room (Nat.le_of_ble_eq_true rfl)) d_M_solved_4 ⟨Nat.le_of_ble_eq_true rfl, Nat.le_of_ble_eq_true rfl⟩) (fun r_1 hr_1 => ?_)
  subst hr_1
  refine nr_top (y := nI 1) (by rw [in_n (by omega) hxs (by omega)]; rfl) ?_
  refine nr_if_ne (tgt := 14) hx hb (by omega) d_M_solved_7 (by decide) (fun c_7 => ?_) (fun c_7 => by exfalso; omega)
  refine nr_iconst hx hb 0 d_M_solved_14 (by decide) ?_
  refine nr_iconst hx hb 0 d_M_solved_15 (by decide) ?_
  refine nr_iconst hx hb 0 d_M_solved_16 (by decide) ?_
  refine nr_iconst hx hb 0 d_M_solved_17 (by decide) ?_
  refine nr_callwi (wr := ([] : va_W)) (va_runV (As := [.int (nI 0), .int (nI 0), .int (nI 0), .int (nI 0)]) (rest := []) ⟨hx, hb, hml, hown, hts⟩ (c_M_throwing l D am cm P G X 0 0 0 0 (by decide) (by decide) (by decide) (by decide) H.size) ⟨callB_of 4 hts (gTB q_M_throwing) rfl rfl rfl (htb _ q4) (htb _ q669) hd_M_throwing ⟨Nat.le_of_ble_eq_true rfl, Nat.le_of_ble_eq_true rfl⟩, (htb _ q671), (htb _ sel_M_throwing)⟩ ⟨rw_blind, va_recv (hK.sub (tys' := []) [] rfl) hP (ci := 3) (q0 := 0) rfl rfl, rw_pre hN (hP.sub (ws' := (wM am cm P G X)) [0, 1, 2, 3, 4, 5, 6, 7, 8, 9, 10, 11, 12, 13, 14] rfl) (hK.sub (tys' := (tM cm)) [0, 1, 2, 3, 4, 5, 6, 7, 8, 9, 10, 11, 12, 13] rfl) (hD.sub (ws' := (wM am cm P G X)) [0, 1, 2, 3, 4, 5, 6, 7, 8, 9, 10, 11, 12, 13, 14] (by decide) rfl)⟩ rfl rfl hl.1 rfl (lv_room (Nat.le_of_ble_eq_true rfl)) d_M_solved_18 ⟨Nat.le_of_ble_eq_true rfl, Nat.le_of_ble_eq_true rfl⟩) hP hD hS hA [0, 1, 2, 3, 4, 5, 6, 7, 8, 9, 10, 11, 12, 13, 14] [] rfl rfl (by decide) (by decide) (fun r_2 u_2 H locs hr_2 hP hD hS => ?_)
  subst hr_2
  replace hP := hP.sub (ws' := wM am cm P G (up2 X 0 0 0)) [0, 1, 2, 3, 4, 5, 6, 7, 8, 9, 10, 11, 12, 13, 14] rfl
  replace hD := hD.sub (ws' := wM am cm P G (up2 X 0 0 0)) [0, 1, 2, 3, 4, 5, 6, 7, 8, 9, 10, 11, 12, 13, 14] (by decide) rfl
  refine nr_top (y := nI 0) rfl ?_
  refine nr_if_eq (tgt := 26) hx hb (by omega) d_M_solved_21 (by decide) (fun c_21 => ?_) (fun c_21 => by exfalso; omega)
  refine lv_iload_n hx hb d_M_solved_26 rfl (lv_at hl 1 rfl) ?_
  refine nr_if_ne (tgt := 45) hx hb (by omega) d_M_solved_27 (by decide) (fun c_27 => ?_) (fun c_27 => ?_)
  · refine lv_iload_n hx hb d_M_solved_45 rfl (lv_at hl 1 rfl) ?_
    refine nr_iconst hx hb 1 d_M_solved_46 (by decide) ?_
    refine nr_icmp_ne (tgt := 57) hx hb (by omega) (by omega) d_M_solved_47 (by decide) (fun c_47 => ?_) (fun c_47 => ?_)
    · refine lv_aload_n hx hb d_M_solved_57 rfl (lv_at hl 0 rfl) ?_
      refine va_get (D := D) (ci := 3) (v := .int (nI (X 0 3))) (C := R_M) (T := F_M) (N := 26) hx hb htb u_M hown hK hP 0 rfl rfl 25 (by decide) (htb _ q604) (fun _ h9 => h9) rfl d_M_solved_58 ?_
      exact W.iret (v := (nI (X 0 3))) hx hb hr (fun t ht hW => ⟨⟨_, (), rfl, by rw [if_neg c_27, if_neg c_47], by rw [ht]; exact hP, hD⟩, hS.F ht⟩) hS.2.2 d_M_solved_61
    · refine lv_aload_n hx hb d_M_solved_50 rfl (lv_at hl 0 rfl) ?_
      refine va_get (D := D) (ci := 3) (v := .int (nI (X 0 2))) (C := R_M) (T := F_M) (N := 26) hx hb htb u_M hown hK hP 0 rfl rfl 24 (by decide) (htb _ q603) (fun _ h9 => h9) rfl d_M_solved_51 ?_
      refine lv_goto (tgt := 61) hx hb d_M_solved_54 (by decide) ?_
      exact W.iret (v := (nI (X 0 2))) hx hb hr (fun t ht hW => ⟨⟨_, (), rfl, by rw [if_neg c_27, if_pos c_47], by rw [ht]; exact hP, hD⟩, hS.F ht⟩) hS.2.2 d_M_solved_61
  · refine lv_aload_n hx hb d_M_solved_30 rfl (lv_at hl 0 rfl) ?_
    refine va_get (D := D) (ci := 3) (v := .int (nI (X 0 1))) (C := R_M) (T := F_M) (N := 26) hx hb htb u_M hown hK hP 0 rfl rfl 23 (by decide) (htb _ q602) (fun _ h9 => h9) rfl d_M_solved_31 ?_
    refine nr_if_eq (tgt := 41) hx hb (by omega) d_M_solved_34 (by decide) (fun c_34 => ?_) (fun c_34 => ?_)
    · refine nr_iconst hx hb 0 d_M_solved_41 (by decide) ?_
      refine lv_goto (tgt := 61) hx hb d_M_solved_42 (by decide) ?_
      exact W.iret (v := (nI 0)) hx hb hr (fun t ht hW => ⟨⟨_, (), rfl, by rw [if_pos c_27, c_34], by rw [ht]; exact hP, hD⟩, hS.F ht⟩) hS.2.2 d_M_solved_61
    · refine nr_iconst hx hb 1 d_M_solved_37 (by decide) ?_
      refine lv_goto (tgt := 61) hx hb d_M_solved_38 (by decide) ?_
      exact W.iret (v := (nI 1)) hx hb hr (fun t ht hW => ⟨⟨_, (), rfl, by rw [if_pos c_27, show X 0 1 = 1 by omega], by rw [ht]; exact hP, hD⟩, hS.F ht⟩) hS.2.2 d_M_solved_61
set_option maxHeartbeats 4000000 in
set_option maxRecDepth 100000 in
theorem k_M_count (l : Launch) (D : va_G) (am : Nat → Nat) (cm : Nat → ClassId) (P G X : Nat → Nat → Nat) (hP0 : okP P) (hG0 : okG G) (hX0 : okX X) (x : Nat) (hxs : x ≤ 4) (sz : Nat) : Met l y_M_count w_M_count { frames := 1, cells := 0, slots := 0, locals := 24 } (rw_P [.ref (am 0), .int (nI x)] D (wM am cm P G X) (tM cm) sz) (rw_Qi (fun (r : Int32) (u : Unit) => r = nI (if x = 0 then P 0 0 else if x = 1 then P 0 1 else if x = 2 then P 0 5 else if x = 3 then G 0 0 else G 0 1)) D (wM am cm P G X) (fun u => wM am cm P G (up2 X 0 0 0)) sz) 0 0 (va_A (wM am cm P G X) sz) := by
  refine Met.ofW (cc := b_M_count) (maxL := 2) (ret := (some .int)) (by decide) rfl ?_
  intro p e s m args below meth c s₁ B hml hv
  obtain ⟨rfl, hsz, hN, hP, hK, hD0⟩ := hv
  have hx := B.exec
  have hb := B.bytes
  have hr := B.returns
  have hts := atoms_spec (ws := w_M_count) B.pre
  have htb : ∀ w ∈ TBG, w.before [.ref (am 0), .int (nI x)].toArray s = true := fun w h => hts w (List.mem_cons_of_mem _ h)
  have hown : s.vm.findClass R_M = some m.cls := findClass_of_methodNamed B.named
  have hlocks := B.notSynchronized
  subst hsz
  have hD := hD0.self (sz := s.heap.size)
  unfold rw_Qi
  generalize hAe : va_A (wM am cm P G X) s.heap.size = A at hD ⊢
  have hA : ∀ q : Nat, s.heap.size ≤ q → A q := fun q h => by rw [← hAe]; exact Or.inr h
  have hS : va_S A s.heap s.heap [] := va_S.rf
  have hl := lv_entry ([.ref (am 0), .int (nI x)]) (n := 2) (Nat.le_of_ble_eq_true rfl)
  rw [lg_entry_eq]
  generalize (lg_sl ([.ref (am 0), .int (nI x)]) ++ List.replicate (2 - (lg_sl ([.ref (am 0), .int (nI x)])).length) Slot.unset).toArray = ls at hl ⊢
  have hl : lv_has ls 2 [(0, .ref (am 0)), (1, .int (nI x))] := hl
  refine nr_start hP hS (fun H locs hP hS => ?_)
  obtain ⟨h00, h01, h02, h03, h04, h05, hp1, hp2, hp3, hp4, hp5, hp6⟩ := id hP0
  obtain ⟨k00, k01, hg1, hg2⟩ := id hG0
  obtain ⟨x00, x01, x02, x03, hx1, hx2, hx3, hx4, hx5, hx6, hx7⟩ := id hX0
  refine lv_aload_n hx hb d_M_count_0 rfl (lv_at hl 0 rfl) ?_
  refine lv_iload_n hx hb d_M_count_1 rfl (lv_at hl 1 rfl) ?_
  refine nr_iconst hx hb 0 d_M_count_2 (by decide) ?_
  refine nr_iconst hx hb 4 d_M_count_3 (by decide) ?_
  refine nr_calli (va_runS (As := [.int (nI x), .int (nI 0), .int (nI 4)]) (rest := [.ref (am 0)]) ⟨hx, hb, hml, hown, hts⟩ (c_M_in l D (nI x) (nI 0) (nI 4)) ⟨callB_of 3 hts (gTB q_M_in) rfl rfl rfl (htb _ q4) (htb _ q666) hd_M_in ⟨Nat.le_of_ble_eq_true rfl, Nat.le_of_ble_eq_true rfl⟩, (htb _ q667)⟩ ⟨ro_blind, ro_pre hN (hP.sub (ws' := []) [] rfl) (hK.sub (tys' := []) [] rfl)⟩ rfl rfl hl.1 rfl (lv_room (Nat.le_of_ble_eq_true rfl)) d_M_count_4 ⟨Nat.le_of_ble_eq_true rfl, Nat.le_of_ble_eq_true rfl⟩) (fun r_1 hr_1 => ?_)
  subst hr_1
  refine nr_top (y := nI 1) (by rw [in_n (by omega) hxs (by omega)]; rfl) ?_
  refine nr_if_ne (tgt := 14) hx hb (by omega) d_M_count_7 (by decide) (fun c_7 => ?_) (fun c_7 => by exfalso; omega)
  refine nr_iconst hx hb 0 d_M_count_14 (by decide) ?_
  refine nr_iconst hx hb 0 d_M_count_15 (by decide) ?_
  refine nr_iconst hx hb 0 d_M_count_16 (by decide) ?_
  refine nr_iconst hx hb 0 d_M_count_17 (by decide) ?_
  refine nr_callwi (wr := ([] : va_W)) (va_runV (As := [.int (nI 0), .int (nI 0), .int (nI 0), .int (nI 0)]) (rest := []) ⟨hx, hb, hml, hown, hts⟩ (c_M_throwing l D am cm P G X 0 0 0 0 (by decide) (by decide) (by decide) (by decide) H.size) ⟨callB_of 4 hts (gTB q_M_throwing) rfl rfl rfl (htb _ q4) (htb _ q669) hd_M_throwing ⟨Nat.le_of_ble_eq_true rfl, Nat.le_of_ble_eq_true rfl⟩, (htb _ q671), (htb _ sel_M_throwing)⟩ ⟨rw_blind, va_recv (hK.sub (tys' := []) [] rfl) hP (ci := 3) (q0 := 0) rfl rfl, rw_pre hN (hP.sub (ws' := (wM am cm P G X)) [0, 1, 2, 3, 4, 5, 6, 7, 8, 9, 10, 11, 12, 13, 14] rfl) (hK.sub (tys' := (tM cm)) [0, 1, 2, 3, 4, 5, 6, 7, 8, 9, 10, 11, 12, 13] rfl) (hD.sub (ws' := (wM am cm P G X)) [0, 1, 2, 3, 4, 5, 6, 7, 8, 9, 10, 11, 12, 13, 14] (by decide) rfl)⟩ rfl rfl hl.1 rfl (lv_room (Nat.le_of_ble_eq_true rfl)) d_M_count_18 ⟨Nat.le_of_ble_eq_true rfl, Nat.le_of_ble_eq_true rfl⟩) hP hD hS hA [0, 1, 2, 3, 4, 5, 6, 7, 8, 9, 10, 11, 12, 13, 14] [] rfl rfl (by decide) (by decide) (fun r_2 u_2 H locs hr_2 hP hD hS => ?_)
  subst hr_2
  replace hP := hP.sub (ws' := wM am cm P G (up2 X 0 0 0)) [0, 1, 2, 3, 4, 5, 6, 7, 8, 9, 10, 11, 12, 13, 14] rfl
  replace hD := hD.sub (ws' := wM am cm P G (up2 X 0 0 0)) [0, 1, 2, 3, 4, 5, 6, 7, 8, 9, 10, 11, 12, 13, 14] (by decide) rfl
  refine nr_top (y := nI 0) rfl ?_
  refine nr_if_eq (tgt := 26) hx hb (by omega) d_M_count_21 (by decide) (fun c_21 => ?_) (fun c_21 => by exfalso; omega)
  refine lv_iload_n hx hb d_M_count_26 rfl (lv_at hl 1 rfl) ?_
  refine nr_if_ne (tgt := 37) hx hb (by omega) d_M_count_27 (by decide) (fun c_27 => ?_) (fun c_27 => ?_)
  · refine lv_iload_n hx hb d_M_count_37 rfl (lv_at hl 1 rfl) ?_
    refine nr_iconst hx hb 1 d_M_count_38 (by decide) ?_
    refine nr_icmp_ne (tgt := 49) hx hb (by omega) (by omega) d_M_count_39 (by decide) (fun c_39 => ?_) (fun c_39 => ?_)
    · refine lv_iload_n hx hb d_M_count_49 rfl (lv_at hl 1 rfl) ?_
      refine nr_iconst hx hb 2 d_M_count_50 (by decide) ?_
      refine nr_icmp_ne (tgt := 61) hx hb (by omega) (by omega) d_M_count_51 (by decide) (fun c_51 => ?_) (fun c_51 => ?_)
      · refine lv_iload_n hx hb d_M_count_61 rfl (lv_at hl 1 rfl) ?_
        refine nr_iconst hx hb 3 d_M_count_62 (by decide) ?_
        refine nr_icmp_ne (tgt := 73) hx hb (by omega) (by omega) d_M_count_63 (by decide) (fun c_63 => ?_) (fun c_63 => ?_)
        · refine lv_aload_n hx hb d_M_count_73 rfl (lv_at hl 0 rfl) ?_
          refine va_get (D := D) (ci := 3) (v := .int (nI (G 0 1))) (C := R_M) (T := F_M) (N := 26) hx hb htb u_M hown hK hP 0 rfl rfl 10 (by decide) (htb _ q589) (fun _ h9 => h9) rfl d_M_count_74 ?_
          exact W.iret (v := (nI (G 0 1))) hx hb hr (fun t ht hW => ⟨⟨_, (), rfl, by rw [if_neg c_27, if_neg c_39, if_neg c_51, if_neg c_63], by rw [ht]; exact hP, hD⟩, hS.F ht⟩) hS.2.2 d_M_count_77
        · refine lv_aload_n hx hb d_M_count_66 rfl (lv_at hl 0 rfl) ?_
          refine va_get (D := D) (ci := 3) (v := .int (nI (G 0 0))) (C := R_M) (T := F_M) (N := 26) hx hb htb u_M hown hK hP 0 rfl rfl 3 (by decide) (htb _ q582) (fun _ h9 => h9) rfl d_M_count_67 ?_
          refine lv_goto (tgt := 77) hx hb d_M_count_70 (by decide) ?_
          exact W.iret (v := (nI (G 0 0))) hx hb hr (fun t ht hW => ⟨⟨_, (), rfl, by rw [if_neg c_27, if_neg c_39, if_neg c_51, if_pos c_63], by rw [ht]; exact hP, hD⟩, hS.F ht⟩) hS.2.2 d_M_count_77
      · refine lv_aload_n hx hb d_M_count_54 rfl (lv_at hl 0 rfl) ?_
        refine va_get (D := D) (ci := 3) (v := .int (nI (P 0 5))) (C := R_M) (T := F_M) (N := 26) hx hb htb u_M hown hK hP 0 rfl rfl 17 (by decide) (htb _ q596) (fun _ h9 => h9) rfl d_M_count_55 ?_
        refine lv_goto (tgt := 77) hx hb d_M_count_58 (by decide) ?_
        exact W.iret (v := (nI (P 0 5))) hx hb hr (fun t ht hW => ⟨⟨_, (), rfl, by rw [if_neg c_27, if_neg c_39, if_pos c_51], by rw [ht]; exact hP, hD⟩, hS.F ht⟩) hS.2.2 d_M_count_77
    · refine lv_aload_n hx hb d_M_count_42 rfl (lv_at hl 0 rfl) ?_
      refine va_get (D := D) (ci := 3) (v := .int (nI (P 0 1))) (C := R_M) (T := F_M) (N := 26) hx hb htb u_M hown hK hP 0 rfl rfl 2 (by decide) (htb _ q581) (fun _ h9 => h9) rfl d_M_count_43 ?_
      refine lv_goto (tgt := 77) hx hb d_M_count_46 (by decide) ?_
      exact W.iret (v := (nI (P 0 1))) hx hb hr (fun t ht hW => ⟨⟨_, (), rfl, by rw [if_neg c_27, if_pos c_39], by rw [ht]; exact hP, hD⟩, hS.F ht⟩) hS.2.2 d_M_count_77
  · refine lv_aload_n hx hb d_M_count_30 rfl (lv_at hl 0 rfl) ?_
    refine va_get (D := D) (ci := 3) (v := .int (nI (P 0 0))) (C := R_M) (T := F_M) (N := 26) hx hb htb u_M hown hK hP 0 rfl rfl 1 (by decide) (htb _ q580) (fun _ h9 => h9) rfl d_M_count_31 ?_
    refine lv_goto (tgt := 77) hx hb d_M_count_34 (by decide) ?_
    exact W.iret (v := (nI (P 0 0))) hx hb hr (fun t ht hW => ⟨⟨_, (), rfl, by rw [if_pos c_27], by rw [ht]; exact hP, hD⟩, hS.F ht⟩) hS.2.2 d_M_count_77
set_option maxHeartbeats 4000000 in
set_option maxRecDepth 100000 in
theorem c_M_costOf (l : Launch) (D : va_G) (am : Nat → Nat) (cm : Nat → ClassId) (P G X : Nat → Nat → Nat) (hP0 : okP P) (hG0 : okG G) (hX0 : okX X) (p1 : Nat) (hp16 : p1 < 6) : Met l y_M_costOf w_M_costOf { frames := 1, cells := 0, slots := 0, locals := 24 } (ro_P [.ref (am 0), .int (nI p1)] D (wM am cm P G X) (tM cm)) (vp_Si (fun r => r = nI (costOne P (G 1) p1))) 0 0 (fun _ => False) := by
  refine Met.ofW (cc := b_M_costOf) (maxL := 2) (ret := (some .int)) (by decide) rfl ?_
  intro p e s m args below meth c s₁ B hml hv
  obtain ⟨rfl, hN, hP, hK⟩ := hv
  have hx := B.exec
  have hb := B.bytes
  have hr := B.returns
  have hts := atoms_spec (ws := w_M_costOf) B.pre
  have htb : ∀ w ∈ TBG, w.before [.ref (am 0), .int (nI p1)].toArray s = true := fun w h => hts w (List.mem_cons_of_mem _ h)
  have hown : s.vm.findClass R_M = some m.cls := findClass_of_methodNamed B.named
  have hlocks := B.notSynchronized
  have hl := lv_entry ([.ref (am 0), .int (nI p1)]) (n := 2) (Nat.le_of_ble_eq_true rfl)
  rw [lg_entry_eq]
  generalize (lg_sl ([.ref (am 0), .int (nI p1)]) ++ List.replicate (2 - (lg_sl ([.ref (am 0), .int (nI p1)])).length) Slot.unset).toArray = ls at hl ⊢
  have hl : lv_has ls 2 [(0, .ref (am 0)), (1, .int (nI p1))] := hl
  obtain ⟨h00, h01, h02, h03, h04, h05, hp1, hp2, hp3, hp4, hp5, hp6⟩ := id hP0
  obtain ⟨k00, k01, hg1, hg2⟩ := id hG0
  obtain ⟨x00, x01, x02, x03, hx1, hx2, hx3, hx4, hx5, hx6, hx7⟩ := id hX0
  refine lv_aload_n hx hb d_M_costOf_0 rfl (lv_at hl 0 rfl) ?_
  refine va_get (D := D) (ci := 3) (v := .int (nI (P 0 1))) (C := R_M) (T := F_M) (N := 26) hx hb htb u_M hown hK hP 0 rfl rfl 2 (by decide) (htb _ q581) (fun _ h9 => h9) rfl d_M_costOf_1 ?_
  refine nr_if_ne (tgt := 11) hx hb (by omega) d_M_costOf_4 (by decide) (fun c_4 => ?_) (fun c_4 => ?_)
  · refine nr_bipush hx hb 8 d_M_costOf_11 (by decide) ?_
    refine lv_aload_n hx hb d_M_costOf_13 rfl (lv_at hl 0 rfl) ?_
    refine va_get (D := D) (ci := 3) (v := .ref (am 2)) (C := R_M) (T := F_M) (N := 26) hx hb htb u_M hown hK hP 0 rfl rfl 5 (by decide) (htb _ q584) (fun _ h9 => h9) rfl d_M_costOf_14 ?_
    refine lv_iload_n hx hb d_M_costOf_17 rfl (lv_at hl 1 rfl) ?_
    refine nr_iald hx hb hK hP 2 1 rfl rfl (by omega) (by decide) d_M_costOf_18 ?_
    have hv_1 := hp2 p1
    refine nr_imul hx hb d_M_costOf_19 ?_
    refine nr_top (y := nI ((P 2 p1) * 8)) (congrArg nI (Nat.mul_comm _ _)) ?_
    refine lv_aload_n hx hb d_M_costOf_20 rfl (lv_at hl 0 rfl) ?_
    refine va_get (D := D) (ci := 3) (v := .ref (am 3)) (C := R_M) (T := F_M) (N := 26) hx hb htb u_M hown hK hP 0 rfl rfl 6 (by decide) (htb _ q585) (fun _ h9 => h9) rfl d_M_costOf_21 ?_
    refine lv_iload_n hx hb d_M_costOf_24 rfl (lv_at hl 1 rfl) ?_
    refine lv_aload_n hx hb d_M_costOf_25 rfl (lv_at hl 0 rfl) ?_
    refine va_get (D := D) (ci := 3) (v := .int (nI (P 0 1))) (C := R_M) (T := F_M) (N := 26) hx hb htb u_M hown hK hP 0 rfl rfl 2 (by decide) (htb _ q581) (fun _ h9 => h9) rfl d_M_costOf_26 ?_
    refine nr_iconst hx hb 1 d_M_costOf_29 (by decide) ?_
    refine nr_isub hx hb (by omega) d_M_costOf_30 ?_
    refine nr_calli (va_runS (As := [.ref (am 3), .int (nI p1), .int (nI ((P 0 1) - 1))]) (rest := [.int (nI ((P 2 p1) * 8))]) ⟨hx, hb, hml, hown, hts⟩ (c_M_many l D (am 3) (cm 2) (G 1) hg1 p1 ((P 0 1) - 1) (by omega) (by omega)) ⟨callB_of 3 hts (gTB q_M_many) rfl rfl rfl (htb _ q4) (htb _ q736) hd_M_many ⟨Nat.le_of_ble_eq_true rfl, Nat.le_of_ble_eq_true rfl⟩, (htb _ q737)⟩ ⟨ro_blind, ro_pre hN (hP.sub (ws' := [(am 3, .inl ((cm 2), 42, .inl (fun k => nI ((G 1) k))))]) [3] rfl) (hK.sub (tys' := [((cm 2), .int)]) [2] rfl)⟩ rfl rfl hl.1 rfl (lv_room (Nat.le_of_ble_eq_true rfl)) d_M_costOf_31 ⟨Nat.le_of_ble_eq_true rfl, Nat.le_of_ble_eq_true rfl⟩) (fun r_2 hr_2 => ?_)
    subst hr_2
    refine nr_imul hx hb d_M_costOf_34 ?_
    exact W.iret (v := (nI (((P 2 p1) * 8) * (cnt (G 1) p1 (((P 0 1) - 1) + 1))))) hx hb hr (fun t ht hW => ⟨_, rfl, congrArg nI (cost_eq (by omega)), ht⟩) (fun q h => by cases h) d_M_costOf_35
  · refine nr_iconst hx hb 0 d_M_costOf_7 (by decide) ?_
    refine lv_goto (tgt := 35) hx hb d_M_costOf_8 (by decide) ?_
    exact W.iret (v := (nI 0)) hx hb hr (fun t ht hW => ⟨_, rfl, by rw [costOne, c_4]; simp [co], ht⟩) (fun q h => by cases h) d_M_costOf_35
set_option maxHeartbeats 4000000 in
set_option maxRecDepth 100000 in
theorem k_M_cost (l : Launch) (D : va_G) (am : Nat → Nat) (cm : Nat → ClassId) (P G X : Nat → Nat → Nat) (hP0 : okP P) (hG0 : okG G) (hX0 : okX X) (sz : Nat) : Met l y_M_cost w_M_cost { frames := 2, cells := 0, slots := 0, locals := 45 } (rw_P [.ref (am 0)] D (wM am cm P G X) (tM cm) sz) (rw_Qi (fun (r : Int32) (u : Unit) => r = nI (costAll P (G 1))) D (wM am cm P G X) (fun u => wM am cm P G (up2 X 0 0 0)) sz) 0 0 (va_A (wM am cm P G X) sz) := by
  refine Met.ofW (cc := b_M_cost) (maxL := 3) (ret := (some .int)) (by decide) rfl ?_
  intro p e s m args below meth c s₁ B hml hv
  obtain ⟨rfl, hsz, hN, hP, hK, hD0⟩ := hv
  have hx := B.exec
  have hb := B.bytes
  have hr := B.returns
  have hts := atoms_spec (ws := w_M_cost) B.pre
  have htb : ∀ w ∈ TBG, w.before [.ref (am 0)].toArray s = true := fun w h => hts w (List.mem_cons_of_mem _ h)
  have hown : s.vm.findClass R_M = some m.cls := findClass_of_methodNamed B.named
  have hlocks := B.notSynchronized
  subst hsz
  have hD := hD0.self (sz := s.heap.size)
  unfold rw_Qi
  generalize hAe : va_A (wM am cm P G X) s.heap.size = A at hD ⊢
  have hA : ∀ q : Nat, s.heap.size ≤ q → A q := fun q h => by rw [← hAe]; exact Or.inr h
  have hS : va_S A s.heap s.heap [] := va_S.rf
  have hl := lv_entry ([.ref (am 0)]) (n := 3) (Nat.le_of_ble_eq_true rfl)
  rw [lg_entry_eq]
  generalize (lg_sl ([.ref (am 0)]) ++ List.replicate (3 - (lg_sl ([.ref (am 0)])).length) Slot.unset).toArray = ls at hl ⊢
  have hl : lv_has ls 3 [(0, .ref (am 0))] := hl
  refine nr_start hP hS (fun H locs hP hS => ?_)
  obtain ⟨h00, h01, h02, h03, h04, h05, hp1, hp2, hp3, hp4, hp5, hp6⟩ := id hP0
  obtain ⟨k00, k01, hg1, hg2⟩ := id hG0
  obtain ⟨x00, x01, x02, x03, hx1, hx2, hx3, hx4, hx5, hx6, hx7⟩ := id hX0
  refine lv_aload_n hx hb d_M_cost_0 rfl (lv_at hl 0 rfl) ?_
  refine nr_iconst hx hb 0 d_M_cost_1 (by decide) ?_
  refine va_put (D := D) (ci := 3) (v := .int (nI 0)) (ty := .int) (C := R_M) (T := F_M) (N := 26) hx hb htb u_M t_M t_M_ok n_M hown hK hP hD hS 0 rfl rfl 0 (by decide) (htb _ q579) (fun _ h9 => h9) rfl (by decide +kernel) rfl rfl (Nat.le_of_ble_eq_true rfl) d_M_cost_2 (fun H locs hP hD hS => ?_)
  replace hP : va_P D cls (wM am cm P G (up2 X 0 0 0)) H := hP
  replace hD : va_D A (wM am cm P G (up2 X 0 0 0)) := hD
  refine nr_iconst hx hb 0 d_M_cost_5 (by decide) ?_
  refine lv_istore_n (lv' := [(1, .int (nI 0)), (0, .ref (am 0))]) hx hb d_M_cost_6 rfl hl (by decide) rfl (fun ls hl => ?_)
  refine nr_iconst hx hb 0 d_M_cost_7 (by decide) ?_
  refine lv_istore_n (lv' := [(2, .int (nI 0)), (1, .int (nI 0)), (0, .ref (am 0))]) hx hb d_M_cost_8 rfl hl (by decide) rfl (fun ls hl => ?_)
  replace hl : ∃ k p1 acc : Nat, (p1 + k = P 0 0) ∧ (ca1 P (G 1) k p1 acc = costAll P (G 1)) ∧ lv_has ls 3 [(0, .ref (am 0)), (1, .int (nI acc)), (2, .int (nI p1))] := ⟨P 0 0, 0, 0, Nat.zero_add _, rfl, lv_sub hl [2, 1, 0] rfl⟩
  obtain ⟨k, p1, acc, hk, hres, hl⟩ := hl
  induction k generalizing p1 acc ls with
  | zero =>
    refine lv_iload_n hx hb d_M_cost_9 rfl (lv_at hl 2 rfl) ?_
    refine lv_aload_n hx hb d_M_cost_10 rfl (lv_at hl 0 rfl) ?_
    refine va_get (D := D) (ci := 3) (v := .int (nI (P 0 0))) (C := R_M) (T := F_M) (N := 26) hx hb htb u_M hown hK hP 0 rfl rfl 1 (by decide) (htb _ q580) (fun _ h9 => h9) rfl d_M_cost_11 ?_
    refine nr_icmp_ge (tgt := 31) hx hb (by omega) (by omega) d_M_cost_14 (by decide) (fun c_14 => ?_) (fun c_14 => by exfalso; omega)
    refine lv_iload_n hx hb d_M_cost_31 rfl (lv_at hl 1 rfl) ?_
    exact W.iret (v := (nI acc)) hx hb hr (fun t ht hW => ⟨⟨_, (), rfl, by rw [← hres, ca1], by rw [ht]; exact hP, hD⟩, hS.F ht⟩) hS.2.2 d_M_cost_32
  | succ k ih_9 =>
    refine lv_iload_n hx hb d_M_cost_9 rfl (lv_at hl 2 rfl) ?_
    refine lv_aload_n hx hb d_M_cost_10 rfl (lv_at hl 0 rfl) ?_
    refine va_get (D := D) (ci := 3) (v := .int (nI (P 0 0))) (C := R_M) (T := F_M) (N := 26) hx hb htb u_M hown hK hP 0 rfl rfl 1 (by decide) (htb _ q580) (fun _ h9 => h9) rfl d_M_cost_11 ?_
    refine nr_icmp_ge (tgt := 31) hx hb (by omega) (by omega) d_M_cost_14 (by decide) (fun c_14 => by exfalso; omega) (fun c_14 => ?_)
    refine lv_iload_n hx hb d_M_cost_17 rfl (lv_at hl 1 rfl) ?_
    refine lv_aload_n hx hb d_M_cost_18 rfl (lv_at hl 0 rfl) ?_
    refine lv_iload_n hx hb d_M_cost_19 rfl (lv_at hl 2 rfl) ?_
    refine nr_calli (va_runV (As := [.int (nI p1)]) (rest := [.int (nI acc)]) ⟨hx, hb, hml, hown, hts⟩ (c_M_costOf l D am cm P G (up2 X 0 0 0) hP0 hG0 (okx_0 hX0) p1 (by omega)) ⟨callB_of 1 hts (gTB q_M_costOf) rfl rfl rfl (htb _ q4) (htb _ q774) hd_M_costOf ⟨Nat.le_of_ble_eq_true rfl, Nat.le_of_ble_eq_true rfl⟩, (htb _ q776), (htb _ sel_M_costOf)⟩ ⟨ro_blind, va_recv (hK.sub (tys' := []) [] rfl) hP (ci := 3) (q0 := 0) rfl rfl, ro_pre hN (hP.sub (ws' := (wM am cm P G (up2 X 0 0 0))) [0, 1, 2, 3, 4, 5, 6, 7, 8, 9, 10, 11, 12, 13, 14] rfl) (hK.sub (tys' := (tM cm)) [0, 1, 2, 3, 4, 5, 6, 7, 8, 9, 10, 11, 12, 13] rfl)⟩ rfl rfl hl.1 rfl (lv_room (Nat.le_of_ble_eq_true rfl)) d_M_cost_20 ⟨Nat.le_of_ble_eq_true rfl, Nat.le_of_ble_eq_true rfl⟩) (fun r_1 hr_1 => ?_)
    subst hr_1
    refine nr_iadd hx hb d_M_cost_23 ?_
    refine lv_istore_n (lv' := [(1, .int (nI (acc + (costOne P (G 1) p1)))), (0, .ref (am 0)), (2, .int (nI p1))]) hx hb d_M_cost_24 rfl hl (by decide) rfl (fun ls hl => ?_)
    refine nr_iinc (k := 2) (lv' := [(2, .int (nI (p1 + 1))), (1, .int (nI (acc + (costOne P (G 1) p1)))), (0, .ref (am 0))]) hx hb d_M_cost_25 hl rfl (by decide) rfl (fun ls hl => ?_)
    refine lv_goto (tgt := 9) hx hb d_M_cost_28 (by decide) ?_
    exact ih_9 _ _ _ (by omega) (by rw [← hres, ca1]) (lv_sub hl [2, 1, 0] rfl)
set_option maxHeartbeats 4000000 in
set_option maxRecDepth 100000 in
theorem k_M_share (l : Launch) (D : va_G) (am : Nat → Nat) (cm : Nat → ClassId) (P G X : Nat → Nat → Nat) (hP0 : okP P) (hG0 : okG G) (hX0 : okX X) (p1 : Nat) (hp : p1 < P 0 0) (hne : costAll P (G 1) ≠ 0) (sz : Nat) : Met l y_M_share w_M_share { frames := 3, cells := 0, slots := 0, locals := 67 } (rw_P [.ref (am 0), .int (nI p1)] D (wM am cm P G X) (tM cm) sz) (rw_Qi (fun (r : Int32) (u : Unit) => r = nI (1000 * costOne P (G 1) p1 / costAll P (G 1))) D (wM am cm P G X) (fun u => wM am cm P G (up2 X 0 0 0)) sz) 0 0 (va_A (wM am cm P G X) sz) := by
  refine Met.ofW (cc := b_M_share) (maxL := 4) (ret := (some .int)) (by decide) rfl ?_
  intro p e s m args below meth c s₁ B hml hv
  obtain ⟨rfl, hsz, hN, hP, hK, hD0⟩ := hv
  have hx := B.exec
  have hb := B.bytes
  have hr := B.returns
  have hts := atoms_spec (ws := w_M_share) B.pre
  have htb : ∀ w ∈ TBG, w.before [.ref (am 0), .int (nI p1)].toArray s = true := fun w h => hts w (List.mem_cons_of_mem _ h)
  have hown : s.vm.findClass R_M = some m.cls := findClass_of_methodNamed B.named
  have hlocks := B.notSynchronized
  subst hsz
  have hD := hD0.self (sz := s.heap.size)
  unfold rw_Qi
  generalize hAe : va_A (wM am cm P G X) s.heap.size = A at hD ⊢
  have hA : ∀ q : Nat, s.heap.size ≤ q → A q := fun q h => by rw [← hAe]; exact Or.inr h
  have hS : va_S A s.heap s.heap [] := va_S.rf
  have hl := lv_entry ([.ref (am 0), .int (nI p1)]) (n := 4) (Nat.le_of_ble_eq_true rfl)
  rw [lg_entry_eq]
  generalize (lg_sl ([.ref (am 0), .int (nI p1)]) ++ List.replicate (4 - (lg_sl ([.ref (am 0), .int (nI p1)])).length) Slot.unset).toArray = ls at hl ⊢
  have hl : lv_has ls 4 [(0, .ref (am 0)), (1, .int (nI p1))] := hl
  refine nr_start hP hS (fun H locs hP hS => ?_)
  obtain ⟨h00, h01, h02, h03, h04, h05, hp1, hp2, hp3, hp4, hp5, hp6⟩ := id hP0
  obtain ⟨k00, k01, hg1, hg2⟩ := id hG0
  obtain ⟨x00, x01, x02, x03, hx1, hx2, hx3, hx4, hx5, hx6, hx7⟩ := id hX0
  have hca := costAll_le hP0 (G 1)
  have hc1 := costOne_le hP0 (G 1)
  have hc2 := hc1 p1
  refine lv_aload_n hx hb d_M_share_0 rfl (lv_at hl 0 rfl) ?_
  refine nr_callwi (wr := ([] : va_W)) (va_runV (As := []) (rest := []) ⟨hx, hb, hml, hown, hts⟩ (k_M_cost l D am cm P G X hP0 hG0 hX0 H.size) ⟨callB_of 0 hts (gTB q_M_cost) rfl rfl rfl (htb _ q4) (htb _ q782) hd_M_cost ⟨Nat.le_of_ble_eq_true rfl, Nat.le_of_ble_eq_true rfl⟩, (htb _ q771), (htb _ q772)⟩ ⟨rw_blind, va_recv (hK.sub (tys' := []) [] rfl) hP (ci := 3) (q0 := 0) rfl rfl, rw_pre hN (hP.sub (ws' := (wM am cm P G X)) [0, 1, 2, 3, 4, 5, 6, 7, 8, 9, 10, 11, 12, 13, 14] rfl) (hK.sub (tys' := (tM cm)) [0, 1, 2, 3, 4, 5, 6, 7, 8, 9, 10, 11, 12, 13] rfl) (hD.sub (ws' := (wM am cm P G X)) [0, 1, 2, 3, 4, 5, 6, 7, 8, 9, 10, 11, 12, 13, 14] (by decide) rfl)⟩ rfl rfl hl.1 rfl (lv_room (Nat.le_of_ble_eq_true rfl)) d_M_share_1 ⟨Nat.le_of_ble_eq_true rfl, Nat.le_of_ble_eq_true rfl⟩) hP hD hS hA [0, 1, 2, 3, 4, 5, 6, 7, 8, 9, 10, 11, 12, 13, 14] [] rfl rfl (by decide) (by decide) (fun r_1 u_1 H locs hr_1 hP hD hS => ?_)
  subst hr_1
  replace hP := hP.sub (ws' := wM am cm P G (up2 X 0 0 0)) [0, 1, 2, 3, 4, 5, 6, 7, 8, 9, 10, 11, 12, 13, 14] rfl
  replace hD := hD.sub (ws' := wM am cm P G (up2 X 0 0 0)) [0, 1, 2, 3, 4, 5, 6, 7, 8, 9, 10, 11, 12, 13, 14] (by decide) rfl
  refine lv_istore_n (lv' := [(2, .int (nI (costAll P (G 1)))), (0, .ref (am 0)), (1, .int (nI p1))]) hx hb d_M_share_4 rfl hl (by decide) rfl (fun ls hl => ?_)
  refine lv_aload_n hx hb d_M_share_5 rfl (lv_at hl 1 rfl) ?_
  refine lv_iload_n hx hb d_M_share_6 rfl (lv_at hl 2 rfl) ?_
  refine nr_calli (va_runV (As := [.int (nI p1)]) (rest := []) ⟨hx, hb, hml, hown, hts⟩ (c_M_isPerson l D am cm P G (up2 X 0 0 0) (am 3) (cm 2) (G 1) hP0 hG0 (okx_0 hX0) hg1 (nI p1)) ⟨callB_of 1 hts (gTB q_M_isPerson) rfl rfl rfl (htb _ q4) (htb _ q693) hd_M_isPerson ⟨Nat.le_of_ble_eq_true rfl, Nat.le_of_ble_eq_true rfl⟩, (htb _ q695), (htb _ sel_M_isPerson)⟩ ⟨ro_blind, va_recv (hK.sub (tys' := []) [] rfl) hP (ci := 3) (q0 := 0) rfl rfl, ro_pre hN (hP.sub (ws' := (wMS am cm P G (up2 X 0 0 0) (am 3) (cm 2) (G 1))) [0, 1, 2, 3, 4, 5, 6, 7, 8, 9, 10, 11, 12, 13, 14, 3] rfl) (hK.sub (tys' := (tMS cm (cm 2))) [0, 1, 2, 3, 4, 5, 6, 7, 8, 9, 10, 11, 12, 13, 2] rfl)⟩ rfl rfl hl.1 rfl (lv_room (Nat.le_of_ble_eq_true rfl)) d_M_share_7 ⟨Nat.le_of_ble_eq_true rfl, Nat.le_of_ble_eq_true rfl⟩) (fun r_2 hr_2 => ?_)
  subst hr_2
  refine nr_top (y := nI 1) (by rw [inR_n hp (by omega)]; rfl) ?_
  refine nr_if_ne (tgt := 17) hx hb (by omega) d_M_share_10 (by decide) (fun c_10 => ?_) (fun c_10 => by exfalso; omega)
  refine nr_iconst hx hb 0 d_M_share_17 (by decide) ?_
  refine lv_istore_n (lv' := [(3, .int (nI 0)), (2, .int (nI (costAll P (G 1)))), (0, .ref (am 0)), (1, .int (nI p1))]) hx hb d_M_share_18 rfl hl (by decide) rfl (fun ls hl => ?_)
  refine lv_aload_n hx hb d_M_share_19 rfl (lv_at hl 2 rfl) ?_
  refine lv_iload_n hx hb d_M_share_20 rfl (lv_at hl 0 rfl) ?_
  refine lv_iload_n hx hb d_M_share_21 rfl (lv_at hl 1 rfl) ?_
  refine nr_if_ne (tgt := 29) hx hb (by omega) d_M_share_22 (by decide) (fun c_22 => ?_) (fun c_22 => by exfalso; omega)
  refine nr_iconst hx hb 0 d_M_share_29 (by decide) ?_
  refine nr_iconst hx hb 0 d_M_share_30 (by decide) ?_
  refine nr_iconst hx hb 0 d_M_share_31 (by decide) ?_
  refine nr_callwi (wr := ([] : va_W)) (va_runV (As := [.int (nI 0), .int (nI 0), .int (nI 0), .int (nI 0)]) (rest := []) ⟨hx, hb, hml, hown, hts⟩ (c_M_throwing l D am cm P G (up2 X 0 0 0) 0 0 0 0 (by decide) (by decide) (by decide) (by decide) H.size) ⟨callB_of 4 hts (gTB q_M_throwing) rfl rfl rfl (htb _ q4) (htb _ q669) hd_M_throwing ⟨Nat.le_of_ble_eq_true rfl, Nat.le_of_ble_eq_true rfl⟩, (htb _ q671), (htb _ sel_M_throwing)⟩ ⟨rw_blind, va_recv (hK.sub (tys' := []) [] rfl) hP (ci := 3) (q0 := 0) rfl rfl, rw_pre hN (hP.sub (ws' := (wM am cm P G (up2 X 0 0 0))) [0, 1, 2, 3, 4, 5, 6, 7, 8, 9, 10, 11, 12, 13, 14] rfl) (hK.sub (tys' := (tM cm)) [0, 1, 2, 3, 4, 5, 6, 7, 8, 9, 10, 11, 12, 13] rfl) (hD.sub (ws' := (wM am cm P G (up2 X 0 0 0))) [0, 1, 2, 3, 4, 5, 6, 7, 8, 9, 10, 11, 12, 13, 14] (by decide) rfl)⟩ rfl rfl hl.1 rfl (lv_room (Nat.le_of_ble_eq_true rfl)) d_M_share_32 ⟨Nat.le_of_ble_eq_true rfl, Nat.le_of_ble_eq_true rfl⟩) hP hD hS hA [0, 1, 2, 3, 4, 5, 6, 7, 8, 9, 10, 11, 12, 13, 14] [] rfl rfl (by decide) (by decide) (fun r_3 u_3 H locs hr_3 hP hD hS => ?_)
  subst hr_3
  replace hP := hP.sub (ws' := wM am cm P G (up2 (up2 X 0 0 0) 0 0 0)) [0, 1, 2, 3, 4, 5, 6, 7, 8, 9, 10, 11, 12, 13, 14] rfl
  replace hD := hD.sub (ws' := wM am cm P G (up2 (up2 X 0 0 0) 0 0 0)) [0, 1, 2, 3, 4, 5, 6, 7, 8, 9, 10, 11, 12, 13, 14] (by decide) rfl
  refine nr_top (y := nI 0) rfl ?_
  refine nr_if_eq (tgt := 40) hx hb (by omega) d_M_share_35 (by decide) (fun c_35 => ?_) (fun c_35 => by exfalso; omega)
  refine lv_ldc2 (v := lN 1000) hx hb hown (htb _ q783) d_M_share_40 ?_
  refine lv_aload_n hx hb d_M_share_43 rfl (lv_at hl 2 rfl) ?_
  refine lv_iload_n hx hb d_M_share_44 rfl (lv_at hl 3 rfl) ?_
  refine nr_calli (va_runV (As := [.int (nI p1)]) (rest := [.long (lN 1000)]) ⟨hx, hb, hml, hown, hts⟩ (c_M_costOf l D am cm P G (up2 (up2 X 0 0 0) 0 0 0) hP0 hG0 (okx_0 (okx_0 hX0)) p1 (by omega)) ⟨callB_of 1 hts (gTB q_M_costOf) rfl rfl rfl (htb _ q4) (htb _ q774) hd_M_costOf ⟨Nat.le_of_ble_eq_true rfl, Nat.le_of_ble_eq_true rfl⟩, (htb _ q776), (htb _ sel_M_costOf)⟩ ⟨ro_blind, va_recv (hK.sub (tys' := []) [] rfl) hP (ci := 3) (q0 := 0) rfl rfl, ro_pre hN (hP.sub (ws' := (wM am cm P G (up2 (up2 X 0 0 0) 0 0 0))) [0, 1, 2, 3, 4, 5, 6, 7, 8, 9, 10, 11, 12, 13, 14] rfl) (hK.sub (tys' := (tM cm)) [0, 1, 2, 3, 4, 5, 6, 7, 8, 9, 10, 11, 12, 13] rfl)⟩ rfl rfl hl.1 rfl (lv_room (Nat.le_of_ble_eq_true rfl)) d_M_share_45 ⟨Nat.le_of_ble_eq_true rfl, Nat.le_of_ble_eq_true rfl⟩) (fun r_4 hr_4 => ?_)
  subst hr_4
  refine nr_i2l hx hb (by omega) d_M_share_48 ?_
  refine nr_lmul hx hb d_M_share_49 ?_
  refine lv_iload_n hx hb d_M_share_50 rfl (lv_at hl 1 rfl) ?_
  refine nr_i2l hx hb (by omega) d_M_share_51 ?_
  refine nr_ldiv hx hb (by omega) (by omega) (by omega) d_M_share_52 ?_
  refine nr_l2i hx hb d_M_share_53 ?_
  replace hP := wM_00 hP
  have hD := wM_00D hD
  exact W.iret (v := (nI ((1000 * (costOne P (G 1) p1)) / (costAll P (G 1))))) hx hb hr (fun t ht hW => ⟨⟨_, (), rfl, rfl, by rw [ht]; exact hP, hD⟩, hS.F ht⟩) hS.2.2 d_M_share_54

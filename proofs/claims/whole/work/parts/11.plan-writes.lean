/-- the plan behind startDays -/
def sdP (P : Nat → Nat → Nat) (d : Nat) : Nat → Nat → Nat := upr (upr (upr (upr (up2 (up2 P 0 1 d) 0 5 0) 3 (fun _ => 0)) 4 (fun _ => 0)) 6 (fun _ => 0)) 5 (fun _ => 0)
/-- a wish: from the choice fc + o on, k of them: the weight is added where the wish is not met -/
def aw (fc sf wb wt : Nat) : Nat → Nat → (Nat → Nat → Nat) → Nat → Nat → Nat
  | 0, _, P => P
  | k + 1, o, P => aw fc sf wb wt k (o + 1) (if (if o = sf then 1 else 0) = wb then P else up2 P 6 (fc + o) (P 6 (fc + o) + wt))
set_option maxHeartbeats 4000000 in
set_option maxRecDepth 100000 in
theorem c_R_clearRow (l : Launch) (D : va_G) (a : Nat) (cA : ClassId) (n : Nat) (hn : n < 2147483648) (f : Nat → Nat) (sz : Nat) : Met l y_R_clearRow w_R_clearRow { frames := 0, cells := 0, slots := 0, locals := 0 } (rw_P [.ref a] D ([(a, .inl (cA, n, .inl (fun k => nI (f k))))]) ([(cA, .int)]) sz) (rw_Qv (fun u : Unit => True) D ([(a, .inl (cA, n, .inl (fun k => nI (f k))))]) (fun u => [(a, .inl (cA, n, .inl (fun _ => nI 0)))]) sz) 0 0 (va_A ([(a, .inl (cA, n, .inl (fun k => nI (f k))))]) sz) := by
  refine Met.ofW (cc := b_R_clearRow) (maxL := 2) (ret := none) (by decide) rfl ?_
  intro p e s m args below meth c s₁ B hml hv
  obtain ⟨rfl, hsz, hN, hP, hK, hD0⟩ := hv
  have hx := B.exec
  have hb := B.bytes
  have hr := B.returns
  have hts := atoms_spec (ws := w_R_clearRow) B.pre
  have htb : ∀ w ∈ TBG, w.before [.ref a].toArray s = true := fun w h => hts w (List.mem_cons_of_mem _ h)
  have hown : s.vm.findClass R_R = some m.cls := findClass_of_methodNamed B.named
  have hlocks := B.notSynchronized
  subst hsz
  have hD := hD0.self (sz := s.heap.size)
  unfold rw_Qv
  generalize hAe : va_A ([(a, .inl (cA, n, .inl (fun k => nI (f k))))]) s.heap.size = A at hD ⊢
  have hA : ∀ q : Nat, s.heap.size ≤ q → A q := fun q h => by rw [← hAe]; exact Or.inr h
  have hS : va_S A s.heap s.heap [] := va_S.rf
  have hl := lv_entry ([.ref a]) (n := 2) (Nat.le_of_ble_eq_true rfl)
  rw [lg_entry_eq]
  generalize (lg_sl ([.ref a]) ++ List.replicate (2 - (lg_sl ([.ref a])).length) Slot.unset).toArray = ls at hl ⊢
  have hl : lv_has ls 2 [(0, .ref a)] := hl
  refine nr_start hP hS (fun H locs hP hS => ?_)
  refine nr_iconst hx hb 0 d_R_clearRow_0 (by decide) ?_
  refine lv_istore_n (lv' := [(1, .int (nI 0)), (0, .ref a)]) hx hb d_R_clearRow_1 rfl hl (by decide) rfl (fun ls hl => ?_)
  replace hP : ∃ (k i : Nat) (f1 : Nat → Nat), (i + k = n) ∧ (∀ j, j < i → f1 j = 0) ∧ lv_has ls 2 [(0, .ref a), (1, .int (nI i))] ∧ va_P D cls ([(a, .inl (cA, n, .inl (fun k => nI (f1 k))))]) H ∧ va_D A ([(a, .inl (cA, n, .inl (fun k => nI (f1 k))))]) ∧ va_S A s.heap H locs := ⟨n, 0, f, Nat.zero_add _, fun j h => absurd h (Nat.not_lt_zero j), lv_sub hl [1, 0] rfl, hP, hD, hS⟩
  clear hl hD hS
  obtain ⟨k, i, f1, hk, hf, hl, hP, hD, hS⟩ := hP
  induction k generalizing i f1 ls H locs with
  | zero =>
    refine lv_iload_n hx hb d_R_clearRow_2 rfl (lv_at hl 1 rfl) ?_
    refine lv_aload_n hx hb d_R_clearRow_3 rfl (lv_at hl 0 rfl) ?_
    refine va_alen (v := nI n) hx hb hK hP 0 0 rfl rfl rfl d_R_clearRow_4 ?_
    refine nr_icmp_ge (tgt := 18) hx hb (by omega) (by omega) d_R_clearRow_5 (by decide) (fun c_5 => ?_) (fun c_5 => by exfalso; omega)
    obtain ⟨hP, hD⟩ := nr_swap (q0 := 0) (g := fun _ => nI 0) hP hD rfl (fun j hj => by rw [hf j (by omega)])
    have hP : va_P D cls [(a, .inl (cA, n, .inl (fun _ => nI 0)))] H := hP
    have hD : va_D A [(a, .inl (cA, n, .inl (fun _ => nI 0)))] := hD
    exact W.vret hx hb hr (fun t ht hW => ⟨⟨(), rfl, trivial, by rw [ht]; exact hP, hD⟩, hS.F ht⟩) hS.2.2 d_R_clearRow_18
  | succ k ih_2 =>
    refine lv_iload_n hx hb d_R_clearRow_2 rfl (lv_at hl 1 rfl) ?_
    refine lv_aload_n hx hb d_R_clearRow_3 rfl (lv_at hl 0 rfl) ?_
    refine va_alen (v := nI n) hx hb hK hP 0 0 rfl rfl rfl d_R_clearRow_4 ?_
    refine nr_icmp_ge (tgt := 18) hx hb (by omega) (by omega) d_R_clearRow_5 (by decide) (fun c_5 => by exfalso; omega) (fun c_5 => ?_)
    refine lv_aload_n hx hb d_R_clearRow_8 rfl (lv_at hl 0 rfl) ?_
    refine lv_iload_n hx hb d_R_clearRow_9 rfl (lv_at hl 1 rfl) ?_
    refine nr_iconst hx hb 0 d_R_clearRow_10 (by decide) ?_
    refine nr_iast hx hb hK hP hD hS 0 0 rfl rfl (by omega) hn d_R_clearRow_11 (fun H locs hP hD hS => ?_)
    have hP : va_P D cls ([(a, .inl (cA, n, .inl (fun k => nI ((up1 f1 i 0) k))))]) H := hP
    have hD : va_D A ([(a, .inl (cA, n, .inl (fun k => nI ((up1 f1 i 0) k))))]) := hD
    refine nr_iinc (k := 1) (lv' := [(1, .int (nI (i + 1))), (0, .ref a)]) hx hb d_R_clearRow_12 hl rfl (by decide) rfl (fun ls hl => ?_)
    refine lv_goto (tgt := 2) hx hb d_R_clearRow_15 (by decide) ?_
    exact ih_2 _ _ _ _ _ (by omega) (fun j h => by unfold up1; split; rfl; exact hf j (by omega)) (lv_sub hl [1, 0] rfl) hP hD hS
set_option maxHeartbeats 4000000 in
set_option maxRecDepth 100000 in
theorem c_P_startDays (l : Launch) (D : va_G) (ad : Nat → Nat) (ca : Nat → ClassId) (P : Nat → Nat → Nat) (d : Nat) (sz : Nat) : Met l y_P_startDays w_P_startDays { frames := 1, cells := 0, slots := 0, locals := 21 } (rw_P [.ref (ad 1), .int (nI d)] D (wP ad ca P) (tP ca) sz) (rw_Qv (fun u : Unit => True) D (wP ad ca P) (fun u => wP ad ca (sdP P d)) sz) 0 0 (va_A (wP ad ca P) sz) := by
  refine Met.ofW (cc := b_P_startDays) (maxL := 3) (ret := none) (by decide) rfl ?_
  intro p e s m args below meth c s₁ B hml hv
  obtain ⟨rfl, hsz, hN, hP, hK, hD0⟩ := hv
  have hx := B.exec
  have hb := B.bytes
  have hr := B.returns
  have hts := atoms_spec (ws := w_P_startDays) B.pre
  have htb : ∀ w ∈ TBG, w.before [.ref (ad 1), .int (nI d)].toArray s = true := fun w h => hts w (List.mem_cons_of_mem _ h)
  have hown : s.vm.findClass R_P = some m.cls := findClass_of_methodNamed B.named
  have hlocks := B.notSynchronized
  subst hsz
  have hD := hD0.self (sz := s.heap.size)
  unfold rw_Qv
  generalize hAe : va_A (wP ad ca P) s.heap.size = A at hD ⊢
  have hA : ∀ q : Nat, s.heap.size ≤ q → A q := fun q h => by rw [← hAe]; exact Or.inr h
  have hS : va_S A s.heap s.heap [] := va_S.rf
  have hl := lv_entry ([.ref (ad 1), .int (nI d)]) (n := 3) (Nat.le_of_ble_eq_true rfl)
  rw [lg_entry_eq]
  generalize (lg_sl ([.ref (ad 1), .int (nI d)]) ++ List.replicate (3 - (lg_sl ([.ref (ad 1), .int (nI d)])).length) Slot.unset).toArray = ls at hl ⊢
  have hl : lv_has ls 3 [(0, .ref (ad 1)), (1, .int (nI d))] := hl
  refine nr_start hP hS (fun H locs hP hS => ?_)
  refine lv_aload_n hx hb d_P_startDays_0 rfl (lv_at hl 0 rfl) ?_
  refine lv_iload_n hx hb d_P_startDays_1 rfl (lv_at hl 1 rfl) ?_
  refine va_put (D := D) (ci := 0) (v := .int (nI d)) (ty := .int) (C := R_P) (T := F_P) (N := 12) hx hb htb u_P t_P t_P_ok n_P hown hK hP hD hS 0 rfl rfl 1 (by decide) (htb _ q31) (fun _ h9 => h9) rfl (by decide +kernel) rfl rfl (Nat.le_of_ble_eq_true rfl) d_P_startDays_2 (fun H locs hP hD hS => ?_)
  have hP : va_P D cls (wP ad ca (up2 P 0 1 d)) H := hP
  have hD : va_D A (wP ad ca (up2 P 0 1 d)) := hD
  refine lv_aload_n hx hb d_P_startDays_5 rfl (lv_at hl 0 rfl) ?_
  refine nr_iconst hx hb 0 d_P_startDays_6 (by decide) ?_
  refine va_put (D := D) (ci := 0) (v := .int (nI 0)) (ty := .int) (C := R_P) (T := F_P) (N := 12) hx hb htb u_P t_P t_P_ok n_P hown hK hP hD hS 0 rfl rfl 5 (by decide) (htb _ q39) (fun _ h9 => h9) rfl (by decide +kernel) rfl rfl (Nat.le_of_ble_eq_true rfl) d_P_startDays_7 (fun H locs hP hD hS => ?_)
  have hP : va_P D cls (wP ad ca (up2 (up2 P 0 1 d) 0 5 0)) H := hP
  have hD : va_D A (wP ad ca (up2 (up2 P 0 1 d) 0 5 0)) := hD
  refine lv_aload_n hx hb d_P_startDays_10 rfl (lv_at hl 0 rfl) ?_
  refine va_get (D := D) (ci := 0) (v := .ref (ad 5)) (C := R_P) (T := F_P) (N := 12) hx hb htb u_P hown hK hP 0 rfl rfl 8 (by decide) (htb _ q43) (fun _ h9 => h9) rfl d_P_startDays_11 ?_
  refine nr_callv (wr := [0, 1, 2, 4, 5, 6].filterMap (fun i => (wP ad ca (up2 (up2 P 0 1 d) 0 5 0))[i]?)) (va_runSN (As := [.ref (ad 5)]) (rest := []) ⟨hx, hb, hml, hown, hts⟩ (c_R_clearRow l D (ad 5) (ca 2) 28 (by decide) ((up2 (up2 P 0 1 d) 0 5 0) 3) H.size) ⟨va_cnB 1 hts (gTB q_R_clearRow) rfl rfl rfl (hN.nw q321 rfl) (htb _ q1) hd_R_clearRow ⟨Nat.le_of_ble_eq_true rfl, Nat.le_of_ble_eq_true rfl⟩, (htb _ q322), trivial⟩ ⟨rw_blind, rw_pre hN (hP.sub (ws' := [(ad 5, .inl (ca 2, 28, .inl (fun k => nI ((up2 (up2 P 0 1 d) 0 5 0) 3 k))))]) [3] rfl) (hK.sub (tys' := [(ca 2, .int)]) [2] rfl) (hD.sub (ws' := [(ad 5, .inl (ca 2, 28, .inl (fun k => nI ((up2 (up2 P 0 1 d) 0 5 0) 3 k))))]) [3] (by decide) rfl)⟩ rfl rfl hl.1 rfl (lv_room (Nat.le_of_ble_eq_true rfl)) d_P_startDays_14 ⟨Nat.le_of_ble_eq_true rfl, Nat.le_of_ble_eq_true rfl⟩) hP hD hS hA [3] [0, 1, 2, 4, 5, 6] rfl rfl (by decide) (by decide) (fun u_1 H locs hu_1 hP hD hS => ?_)
  replace hP := hP.sub (ws' := wP ad ca (upr (up2 (up2 P 0 1 d) 0 5 0) 3 (fun _ => 0))) [0, 1, 2, 6, 3, 4, 5] rfl
  replace hD := hD.sub (ws' := wP ad ca (upr (up2 (up2 P 0 1 d) 0 5 0) 3 (fun _ => 0))) [0, 1, 2, 6, 3, 4, 5] (by decide) rfl
  refine lv_aload_n hx hb d_P_startDays_17 rfl (lv_at hl 0 rfl) ?_
  refine va_get (D := D) (ci := 0) (v := .ref (ad 6)) (C := R_P) (T := F_P) (N := 12) hx hb htb u_P hown hK hP 0 rfl rfl 9 (by decide) (htb _ q44) (fun _ h9 => h9) rfl d_P_startDays_18 ?_
  refine nr_callv (wr := [0, 1, 2, 3, 5, 6].filterMap (fun i => (wP ad ca (upr (up2 (up2 P 0 1 d) 0 5 0) 3 (fun _ => 0)))[i]?)) (va_runSN (As := [.ref (ad 6)]) (rest := []) ⟨hx, hb, hml, hown, hts⟩ (c_R_clearRow l D (ad 6) (ca 3) 28 (by decide) ((upr (up2 (up2 P 0 1 d) 0 5 0) 3 (fun _ => 0)) 4) H.size) ⟨va_cnB 1 hts (gTB q_R_clearRow) rfl rfl rfl (hN.nw q321 rfl) (htb _ q1) hd_R_clearRow ⟨Nat.le_of_ble_eq_true rfl, Nat.le_of_ble_eq_true rfl⟩, (htb _ q322), trivial⟩ ⟨rw_blind, rw_pre hN (hP.sub (ws' := [(ad 6, .inl (ca 3, 28, .inl (fun k => nI ((upr (up2 (up2 P 0 1 d) 0 5 0) 3 (fun _ => 0)) 4 k))))]) [4] rfl) (hK.sub (tys' := [(ca 3, .int)]) [3] rfl) (hD.sub (ws' := [(ad 6, .inl (ca 3, 28, .inl (fun k => nI ((upr (up2 (up2 P 0 1 d) 0 5 0) 3 (fun _ => 0)) 4 k))))]) [4] (by decide) rfl)⟩ rfl rfl hl.1 rfl (lv_room (Nat.le_of_ble_eq_true rfl)) d_P_startDays_21 ⟨Nat.le_of_ble_eq_true rfl, Nat.le_of_ble_eq_true rfl⟩) hP hD hS hA [4] [0, 1, 2, 3, 5, 6] rfl rfl (by decide) (by decide) (fun u_2 H locs hu_2 hP hD hS => ?_)
  replace hP := hP.sub (ws' := wP ad ca (upr (upr (up2 (up2 P 0 1 d) 0 5 0) 3 (fun _ => 0)) 4 (fun _ => 0))) [0, 1, 2, 3, 6, 4, 5] rfl
  replace hD := hD.sub (ws' := wP ad ca (upr (upr (up2 (up2 P 0 1 d) 0 5 0) 3 (fun _ => 0)) 4 (fun _ => 0))) [0, 1, 2, 3, 6, 4, 5] (by decide) rfl
  refine lv_aload_n hx hb d_P_startDays_24 rfl (lv_at hl 0 rfl) ?_
  refine va_get (D := D) (ci := 0) (v := .ref (ad 8)) (C := R_P) (T := F_P) (N := 12) hx hb htb u_P hown hK hP 0 rfl rfl 11 (by decide) (htb _ q48) (fun _ h9 => h9) rfl d_P_startDays_25 ?_
  refine nr_callv (wr := [0, 1, 2, 3, 4, 5].filterMap (fun i => (wP ad ca (upr (upr (up2 (up2 P 0 1 d) 0 5 0) 3 (fun _ => 0)) 4 (fun _ => 0)))[i]?)) (va_runSN (As := [.ref (ad 8)]) (rest := []) ⟨hx, hb, hml, hown, hts⟩ (c_R_clearRow l D (ad 8) (ca 5) 168 (by decide) ((upr (upr (up2 (up2 P 0 1 d) 0 5 0) 3 (fun _ => 0)) 4 (fun _ => 0)) 6) H.size) ⟨va_cnB 1 hts (gTB q_R_clearRow) rfl rfl rfl (hN.nw q321 rfl) (htb _ q1) hd_R_clearRow ⟨Nat.le_of_ble_eq_true rfl, Nat.le_of_ble_eq_true rfl⟩, (htb _ q322), trivial⟩ ⟨rw_blind, rw_pre hN (hP.sub (ws' := [(ad 8, .inl (ca 5, 168, .inl (fun k => nI ((upr (upr (up2 (up2 P 0 1 d) 0 5 0) 3 (fun _ => 0)) 4 (fun _ => 0)) 6 k))))]) [6] rfl) (hK.sub (tys' := [(ca 5, .int)]) [5] rfl) (hD.sub (ws' := [(ad 8, .inl (ca 5, 168, .inl (fun k => nI ((upr (upr (up2 (up2 P 0 1 d) 0 5 0) 3 (fun _ => 0)) 4 (fun _ => 0)) 6 k))))]) [6] (by decide) rfl)⟩ rfl rfl hl.1 rfl (lv_room (Nat.le_of_ble_eq_true rfl)) d_P_startDays_28 ⟨Nat.le_of_ble_eq_true rfl, Nat.le_of_ble_eq_true rfl⟩) hP hD hS hA [6] [0, 1, 2, 3, 4, 5] rfl rfl (by decide) (by decide) (fun u_3 H locs hu_3 hP hD hS => ?_)
  replace hP := hP.sub (ws' := wP ad ca (upr (upr (upr (up2 (up2 P 0 1 d) 0 5 0) 3 (fun _ => 0)) 4 (fun _ => 0)) 6 (fun _ => 0))) [0, 1, 2, 3, 4, 5, 6] rfl
  replace hD := hD.sub (ws' := wP ad ca (upr (upr (upr (up2 (up2 P 0 1 d) 0 5 0) 3 (fun _ => 0)) 4 (fun _ => 0)) 6 (fun _ => 0))) [0, 1, 2, 3, 4, 5, 6] (by decide) rfl
  refine nr_iconst hx hb 0 d_P_startDays_31 (by decide) ?_
  refine lv_istore_n (lv' := [(2, .int (nI 0)), (0, .ref (ad 1)), (1, .int (nI d))]) hx hb d_P_startDays_32 rfl hl (by decide) rfl (fun ls hl => ?_)
  replace hP : ∃ (k i : Nat) (P1 : Nat → Nat → Nat), (i + k = 168) ∧ (∀ j, j < i → P1 5 j = 0) ∧ (∀ r, r ≠ 5 → P1 r = upr (upr (upr (up2 (up2 P 0 1 d) 0 5 0) 3 (fun _ => 0)) 4 (fun _ => 0)) 6 (fun _ => 0) r) ∧ lv_has ls 3 [(0, .ref (ad 1)), (1, .int (nI d)), (2, .int (nI i))] ∧ va_P D cls (wP ad ca P1) H ∧ va_D A (wP ad ca P1) ∧ va_S A s.heap H locs := ⟨168, 0, upr (upr (upr (up2 (up2 P 0 1 d) 0 5 0) 3 (fun _ => 0)) 4 (fun _ => 0)) 6 (fun _ => 0), rfl, fun j h => absurd h (Nat.not_lt_zero j), fun _ _ => rfl, lv_sub hl [1, 2, 0] rfl, hP, hD, hS⟩
  clear hl hD hS
  obtain ⟨k, i, P1, hk, hf, hrr, hl, hP, hD, hS⟩ := hP
  induction k generalizing i P1 ls H locs with
  | zero =>
    refine lv_iload_n hx hb d_P_startDays_33 rfl (lv_at hl 2 rfl) ?_
    refine lv_aload_n hx hb d_P_startDays_34 rfl (lv_at hl 0 rfl) ?_
    refine va_get (D := D) (ci := 0) (v := .ref (ad 7)) (C := R_P) (T := F_P) (N := 12) hx hb htb u_P hown hK hP 0 rfl rfl 10 (by decide) (htb _ q45) (fun _ h9 => h9) rfl d_P_startDays_35 ?_
    refine va_alen (v := nI 168) hx hb hK hP 5 4 rfl rfl rfl d_P_startDays_38 ?_
    refine nr_icmp_ge (tgt := 55) hx hb (by omega) (by omega) d_P_startDays_39 (by decide) (fun c_39 => ?_) (fun c_39 => by exfalso; omega)
    obtain ⟨hP, hD⟩ := nr_swap (q0 := 5) (g := fun _ => nI 0) hP hD rfl (fun j hj => by rw [hf j (by omega)])
    have e0 := hrr 0 (by decide)
    have e1 := hrr 1 (by decide)
    have e2 := hrr 2 (by decide)
    have e3 := hrr 3 (by decide)
    have e4 := hrr 4 (by decide)
    have e6 := hrr 6 (by decide)
    have hP : va_P D cls (wP ad ca (sdP P d)) H := by have h9 := hP; simp only [wP, List.set, e0, e1, e2, e3, e4, e6] at h9; exact h9
    have hD : va_D A (wP ad ca (sdP P d)) := by have h9 := hD; simp only [wP, List.set, e0, e1, e2, e3, e4, e6] at h9; exact h9
    exact W.vret hx hb hr (fun t ht hW => ⟨⟨(), rfl, trivial, by rw [ht]; exact hP, hD⟩, hS.F ht⟩) hS.2.2 d_P_startDays_55
  | succ k ih_33 =>
    refine lv_iload_n hx hb d_P_startDays_33 rfl (lv_at hl 2 rfl) ?_
    refine lv_aload_n hx hb d_P_startDays_34 rfl (lv_at hl 0 rfl) ?_
    refine va_get (D := D) (ci := 0) (v := .ref (ad 7)) (C := R_P) (T := F_P) (N := 12) hx hb htb u_P hown hK hP 0 rfl rfl 10 (by decide) (htb _ q45) (fun _ h9 => h9) rfl d_P_startDays_35 ?_
    refine va_alen (v := nI 168) hx hb hK hP 5 4 rfl rfl rfl d_P_startDays_38 ?_
    refine nr_icmp_ge (tgt := 55) hx hb (by omega) (by omega) d_P_startDays_39 (by decide) (fun c_39 => by exfalso; omega) (fun c_39 => ?_)
    refine lv_aload_n hx hb d_P_startDays_42 rfl (lv_at hl 0 rfl) ?_
    refine va_get (D := D) (ci := 0) (v := .ref (ad 7)) (C := R_P) (T := F_P) (N := 12) hx hb htb u_P hown hK hP 0 rfl rfl 10 (by decide) (htb _ q45) (fun _ h9 => h9) rfl d_P_startDays_43 ?_
    refine lv_iload_n hx hb d_P_startDays_46 rfl (lv_at hl 2 rfl) ?_
    refine nr_iconst hx hb 0 d_P_startDays_47 (by decide) ?_
    refine nr_zast hx hb hK hP hD hS 5 4 rfl rfl (by omega) (by decide) (by omega) d_P_startDays_48 (fun H locs hP hD hS => ?_)
    have hP : va_P D cls (wP ad ca (up2 P1 5 i 0)) H := hP
    have hD : va_D A (wP ad ca (up2 P1 5 i 0)) := hD
    refine nr_iinc (k := 2) (lv' := [(2, .int (nI (i + 1))), (0, .ref (ad 1)), (1, .int (nI d))]) hx hb d_P_startDays_49 hl rfl (by decide) rfl (fun ls hl => ?_)
    refine lv_goto (tgt := 33) hx hb d_P_startDays_52 (by decide) ?_
    exact ih_33 _ _ _ _ _ (by omega) (fun j h => by show (if j = i then 0 else P1 5 j) = 0; split; rfl; exact hf j (by omega)) (fun r h => by rw [← hrr r h]; funext k; simp [up2, h]) (lv_sub hl [1, 2, 0] rfl) hP hD hS
set_option maxHeartbeats 4000000 in
set_option maxRecDepth 100000 in
theorem c_P_addPerson (l : Launch) (D : va_G) (ad : Nat → Nat) (ca : Nat → ClassId) (P : Nat → Nat → Nat) (x y : Nat) (hp : P 0 0 < 6) (sz : Nat) : Met l y_P_addPerson w_P_addPerson { frames := 0, cells := 0, slots := 0, locals := 0 } (rw_P [.ref (ad 1), .int (nI x), .int (nI y)] D (wP ad ca P) (tP ca) sz) (rw_Qi (fun (r : Int32) (u : Unit) => r = nI (P 0 0)) D (wP ad ca P) (fun u => wP ad ca (up2 (up2 (up2 P 1 (P 0 0) x) 2 (P 0 0) y) 0 0 (P 0 0 + 1))) sz) 0 0 (va_A (wP ad ca P) sz) := by
  refine Met.ofW (cc := b_P_addPerson) (maxL := 4) (ret := (some .int)) (by decide) rfl ?_
  intro p e s m args below meth c s₁ B hml hv
  obtain ⟨rfl, hsz, hN, hP, hK, hD0⟩ := hv
  have hx := B.exec
  have hb := B.bytes
  have hr := B.returns
  have hts := atoms_spec (ws := w_P_addPerson) B.pre
  have htb : ∀ w ∈ TBG, w.before [.ref (ad 1), .int (nI x), .int (nI y)].toArray s = true := fun w h => hts w (List.mem_cons_of_mem _ h)
  have hown : s.vm.findClass R_P = some m.cls := findClass_of_methodNamed B.named
  have hlocks := B.notSynchronized
  subst hsz
  have hD := hD0.self (sz := s.heap.size)
  unfold rw_Qi
  generalize hAe : va_A (wP ad ca P) s.heap.size = A at hD ⊢
  have hA : ∀ q : Nat, s.heap.size ≤ q → A q := fun q h => by rw [← hAe]; exact Or.inr h
  have hS : va_S A s.heap s.heap [] := va_S.rf
  have hl := lv_entry ([.ref (ad 1), .int (nI x), .int (nI y)]) (n := 4) (Nat.le_of_ble_eq_true rfl)
  rw [lg_entry_eq]
  generalize (lg_sl ([.ref (ad 1), .int (nI x), .int (nI y)]) ++ List.replicate (4 - (lg_sl ([.ref (ad 1), .int (nI x), .int (nI y)])).length) Slot.unset).toArray = ls at hl ⊢
  have hl : lv_has ls 4 [(0, .ref (ad 1)), (1, .int (nI x)), (2, .int (nI y))] := hl
  refine nr_start hP hS (fun H locs hP hS => ?_)
  refine lv_aload_n hx hb d_P_addPerson_0 rfl (lv_at hl 0 rfl) ?_
  refine va_get (D := D) (ci := 0) (v := .int (nI (P 0 0))) (C := R_P) (T := F_P) (N := 12) hx hb htb u_P hown hK hP 0 rfl rfl 0 (by decide) (htb _ q28) (fun _ h9 => h9) rfl d_P_addPerson_1 ?_
  refine lv_istore_n (lv' := [(3, .int (nI (P 0 0))), (0, .ref (ad 1)), (1, .int (nI x)), (2, .int (nI y))]) hx hb d_P_addPerson_4 rfl hl (by decide) rfl (fun ls hl => ?_)
  refine lv_aload_n hx hb d_P_addPerson_5 rfl (lv_at hl 1 rfl) ?_
  refine va_get (D := D) (ci := 0) (v := .ref (ad 3)) (C := R_P) (T := F_P) (N := 12) hx hb htb u_P hown hK hP 0 rfl rfl 6 (by decide) (htb _ q41) (fun _ h9 => h9) rfl d_P_addPerson_6 ?_
  refine lv_iload_n hx hb d_P_addPerson_9 rfl (lv_at hl 0 rfl) ?_
  refine lv_iload_n hx hb d_P_addPerson_10 rfl (lv_at hl 2 rfl) ?_
  refine nr_iast hx hb hK hP hD hS 1 0 rfl rfl (by omega) (by decide) d_P_addPerson_11 (fun H locs hP hD hS => ?_)
  have hP : va_P D cls (wP ad ca (up2 P 1 (P 0 0) x)) H := hP
  have hD : va_D A (wP ad ca (up2 P 1 (P 0 0) x)) := hD
  refine lv_aload_n hx hb d_P_addPerson_12 rfl (lv_at hl 1 rfl) ?_
  refine va_get (D := D) (ci := 0) (v := .ref (ad 4)) (C := R_P) (T := F_P) (N := 12) hx hb htb u_P hown hK hP 0 rfl rfl 7 (by decide) (htb _ q42) (fun _ h9 => h9) rfl d_P_addPerson_13 ?_
  refine lv_iload_n hx hb d_P_addPerson_16 rfl (lv_at hl 0 rfl) ?_
  refine lv_iload_n hx hb d_P_addPerson_17 rfl (lv_at hl 3 rfl) ?_
  refine nr_iast hx hb hK hP hD hS 2 1 rfl rfl (by omega) (by decide) d_P_addPerson_18 (fun H locs hP hD hS => ?_)
  have hP : va_P D cls (wP ad ca (up2 (up2 P 1 (P 0 0) x) 2 (P 0 0) y)) H := hP
  have hD : va_D A (wP ad ca (up2 (up2 P 1 (P 0 0) x) 2 (P 0 0) y)) := hD
  refine lv_aload_n hx hb d_P_addPerson_19 rfl (lv_at hl 1 rfl) ?_
  refine lv_dup hx hb d_P_addPerson_20 rfl ?_
  refine va_get (D := D) (ci := 0) (v := .int (nI (P 0 0))) (C := R_P) (T := F_P) (N := 12) hx hb htb u_P hown hK hP 0 rfl rfl 0 (by decide) (htb _ q28) (fun _ h9 => h9) rfl d_P_addPerson_21 ?_
  refine nr_iconst hx hb 1 d_P_addPerson_24 (by decide) ?_
  refine nr_iadd hx hb d_P_addPerson_25 ?_
  refine va_put (D := D) (ci := 0) (v := .int (nI ((P 0 0) + 1))) (ty := .int) (C := R_P) (T := F_P) (N := 12) hx hb htb u_P t_P t_P_ok n_P hown hK hP hD hS 0 rfl rfl 0 (by decide) (htb _ q28) (fun _ h9 => h9) rfl (by decide +kernel) rfl rfl (Nat.le_of_ble_eq_true rfl) d_P_addPerson_26 (fun H locs hP hD hS => ?_)
  have hP : va_P D cls (wP ad ca (up2 (up2 (up2 P 1 (P 0 0) x) 2 (P 0 0) y) 0 0 ((P 0 0) + 1))) H := hP
  have hD : va_D A (wP ad ca (up2 (up2 (up2 P 1 (P 0 0) x) 2 (P 0 0) y) 0 0 ((P 0 0) + 1))) := hD
  refine lv_iload_n hx hb d_P_addPerson_29 rfl (lv_at hl 0 rfl) ?_
  exact W.iret (v := (nI (P 0 0))) hx hb hr (fun t ht hW => ⟨⟨_, (), rfl, rfl, by rw [ht]; exact hP, hD⟩, hS.F ht⟩) hS.2.2 d_P_addPerson_30
set_option maxHeartbeats 4000000 in
set_option maxRecDepth 100000 in
theorem c_P_putNeed (l : Launch) (D : va_G) (ad : Nat → Nat) (ca : Nat → ClassId) (P : Nat → Nat → Nat) (d sf x y : Nat) (hd : d < 7) (hs : sf < 4) (sz : Nat) : Met l y_P_putNeed w_P_putNeed { frames := 1, cells := 0, slots := 0, locals := 21 } (rw_P [.ref (ad 1), .int (nI d), .int (nI sf), .int (nI x), .int (nI y)] D (wP ad ca P) (tP ca) sz) (rw_Qv (fun u : Unit => True) D (wP ad ca P) (fun u => wP ad ca (up2 (up2 P 3 (d * 4 + sf) x) 4 (d * 4 + sf) y)) sz) 0 0 (va_A (wP ad ca P) sz) := by
  refine Met.ofW (cc := b_P_putNeed) (maxL := 5) (ret := none) (by decide) rfl ?_
  intro p e s m args below meth c s₁ B hml hv
  obtain ⟨rfl, hsz, hN, hP, hK, hD0⟩ := hv
  have hx := B.exec
  have hb := B.bytes
  have hr := B.returns
  have hts := atoms_spec (ws := w_P_putNeed) B.pre
  have htb : ∀ w ∈ TBG, w.before [.ref (ad 1), .int (nI d), .int (nI sf), .int (nI x), .int (nI y)].toArray s = true := fun w h => hts w (List.mem_cons_of_mem _ h)
  have hown : s.vm.findClass R_P = some m.cls := findClass_of_methodNamed B.named
  have hlocks := B.notSynchronized
  subst hsz
  have hD := hD0.self (sz := s.heap.size)
  unfold rw_Qv
  generalize hAe : va_A (wP ad ca P) s.heap.size = A at hD ⊢
  have hA : ∀ q : Nat, s.heap.size ≤ q → A q := fun q h => by rw [← hAe]; exact Or.inr h
  have hS : va_S A s.heap s.heap [] := va_S.rf
  have hl := lv_entry ([.ref (ad 1), .int (nI d), .int (nI sf), .int (nI x), .int (nI y)]) (n := 5) (Nat.le_of_ble_eq_true rfl)
  rw [lg_entry_eq]
  generalize (lg_sl ([.ref (ad 1), .int (nI d), .int (nI sf), .int (nI x), .int (nI y)]) ++ List.replicate (5 - (lg_sl ([.ref (ad 1), .int (nI d), .int (nI sf), .int (nI x), .int (nI y)])).length) Slot.unset).toArray = ls at hl ⊢
  have hl : lv_has ls 5 [(0, .ref (ad 1)), (1, .int (nI d)), (2, .int (nI sf)), (3, .int (nI x)), (4, .int (nI y))] := hl
  refine nr_start hP hS (fun H locs hP hS => ?_)
  refine lv_aload_n hx hb d_P_putNeed_0 rfl (lv_at hl 0 rfl) ?_
  refine va_get (D := D) (ci := 0) (v := .ref (ad 5)) (C := R_P) (T := F_P) (N := 12) hx hb htb u_P hown hK hP 0 rfl rfl 8 (by decide) (htb _ q43) (fun _ h9 => h9) rfl d_P_putNeed_1 ?_
  refine lv_iload_n hx hb d_P_putNeed_4 rfl (lv_at hl 1 rfl) ?_
  refine lv_iload_n hx hb d_P_putNeed_5 rfl (lv_at hl 2 rfl) ?_
  refine nr_calli (va_runSN (As := [.int (nI d), .int (nI sf)]) (rest := [.ref (ad 5)]) ⟨hx, hb, hml, hown, hts⟩ (c_R_slot l D d sf) ⟨va_cnB 2 hts (gTB q_R_slot) rfl rfl rfl (hN.nw q176 rfl) (htb _ q1) hd_R_slot ⟨Nat.le_of_ble_eq_true rfl, Nat.le_of_ble_eq_true rfl⟩, (htb _ q177), trivial⟩ ⟨ro_blind, ro_pre hN (hP.sub (ws' := []) [] rfl) (hK.sub (tys' := []) [] rfl)⟩ rfl rfl hl.1 rfl (lv_room (Nat.le_of_ble_eq_true rfl)) d_P_putNeed_6 ⟨Nat.le_of_ble_eq_true rfl, Nat.le_of_ble_eq_true rfl⟩) (fun r_1 hr_1 => ?_)
  subst hr_1
  refine lv_iload_n hx hb d_P_putNeed_9 rfl (lv_at hl 3 rfl) ?_
  refine nr_iast hx hb hK hP hD hS 3 2 rfl rfl (by omega) (by decide) d_P_putNeed_10 (fun H locs hP hD hS => ?_)
  have hP : va_P D cls (wP ad ca (up2 P 3 (d * 4 + sf) x)) H := hP
  have hD : va_D A (wP ad ca (up2 P 3 (d * 4 + sf) x)) := hD
  refine lv_aload_n hx hb d_P_putNeed_11 rfl (lv_at hl 0 rfl) ?_
  refine va_get (D := D) (ci := 0) (v := .ref (ad 6)) (C := R_P) (T := F_P) (N := 12) hx hb htb u_P hown hK hP 0 rfl rfl 9 (by decide) (htb _ q44) (fun _ h9 => h9) rfl d_P_putNeed_12 ?_
  refine lv_iload_n hx hb d_P_putNeed_15 rfl (lv_at hl 1 rfl) ?_
  refine lv_iload_n hx hb d_P_putNeed_16 rfl (lv_at hl 2 rfl) ?_
  refine nr_calli (va_runSN (As := [.int (nI d), .int (nI sf)]) (rest := [.ref (ad 6)]) ⟨hx, hb, hml, hown, hts⟩ (c_R_slot l D d sf) ⟨va_cnB 2 hts (gTB q_R_slot) rfl rfl rfl (hN.nw q176 rfl) (htb _ q1) hd_R_slot ⟨Nat.le_of_ble_eq_true rfl, Nat.le_of_ble_eq_true rfl⟩, (htb _ q177), trivial⟩ ⟨ro_blind, ro_pre hN (hP.sub (ws' := []) [] rfl) (hK.sub (tys' := []) [] rfl)⟩ rfl rfl hl.1 rfl (lv_room (Nat.le_of_ble_eq_true rfl)) d_P_putNeed_17 ⟨Nat.le_of_ble_eq_true rfl, Nat.le_of_ble_eq_true rfl⟩) (fun r_2 hr_2 => ?_)
  subst hr_2
  refine lv_iload hx hb d_P_putNeed_20 (lv_at hl 4 rfl) ?_
  refine nr_iast hx hb hK hP hD hS 4 3 rfl rfl (by omega) (by decide) d_P_putNeed_22 (fun H locs hP hD hS => ?_)
  have hP : va_P D cls (wP ad ca (up2 (up2 P 3 (d * 4 + sf) x) 4 (d * 4 + sf) y)) H := hP
  have hD : va_D A (wP ad ca (up2 (up2 P 3 (d * 4 + sf) x) 4 (d * 4 + sf) y)) := hD
  exact W.vret hx hb hr (fun t ht hW => ⟨⟨(), rfl, trivial, by rw [ht]; exact hP, hD⟩, hS.F ht⟩) hS.2.2 d_P_putNeed_23
set_option maxHeartbeats 4000000 in
set_option maxRecDepth 100000 in
theorem c_P_putRules (l : Launch) (D : va_G) (ad : Nat → Nat) (ca : Nat → ClassId) (P : Nat → Nat → Nat) (x y z : Nat) (sz : Nat) : Met l y_P_putRules w_P_putRules { frames := 0, cells := 0, slots := 0, locals := 0 } (rw_P [.ref (ad 1), .int (nI x), .int (nI y), .int (nI z)] D (wP ad ca P) (tP ca) sz) (rw_Qv (fun u : Unit => True) D (wP ad ca P) (fun u => wP ad ca (up2 (up2 (up2 P 0 2 x) 0 3 y) 0 4 z)) sz) 0 0 (va_A (wP ad ca P) sz) := by
  refine Met.ofW (cc := b_P_putRules) (maxL := 4) (ret := none) (by decide) rfl ?_
  intro p e s m args below meth c s₁ B hml hv
  obtain ⟨rfl, hsz, hN, hP, hK, hD0⟩ := hv
  have hx := B.exec
  have hb := B.bytes
  have hr := B.returns
  have hts := atoms_spec (ws := w_P_putRules) B.pre
  have htb : ∀ w ∈ TBG, w.before [.ref (ad 1), .int (nI x), .int (nI y), .int (nI z)].toArray s = true := fun w h => hts w (List.mem_cons_of_mem _ h)
  have hown : s.vm.findClass R_P = some m.cls := findClass_of_methodNamed B.named
  have hlocks := B.notSynchronized
  subst hsz
  have hD := hD0.self (sz := s.heap.size)
  unfold rw_Qv
  generalize hAe : va_A (wP ad ca P) s.heap.size = A at hD ⊢
  have hA : ∀ q : Nat, s.heap.size ≤ q → A q := fun q h => by rw [← hAe]; exact Or.inr h
  have hS : va_S A s.heap s.heap [] := va_S.rf
  have hl := lv_entry ([.ref (ad 1), .int (nI x), .int (nI y), .int (nI z)]) (n := 4) (Nat.le_of_ble_eq_true rfl)
  rw [lg_entry_eq]
  generalize (lg_sl ([.ref (ad 1), .int (nI x), .int (nI y), .int (nI z)]) ++ List.replicate (4 - (lg_sl ([.ref (ad 1), .int (nI x), .int (nI y), .int (nI z)])).length) Slot.unset).toArray = ls at hl ⊢
  have hl : lv_has ls 4 [(0, .ref (ad 1)), (1, .int (nI x)), (2, .int (nI y)), (3, .int (nI z))] := hl
  refine nr_start hP hS (fun H locs hP hS => ?_)
  refine lv_aload_n hx hb d_P_putRules_0 rfl (lv_at hl 0 rfl) ?_
  refine lv_iload_n hx hb d_P_putRules_1 rfl (lv_at hl 1 rfl) ?_
  refine va_put (D := D) (ci := 0) (v := .int (nI x)) (ty := .int) (C := R_P) (T := F_P) (N := 12) hx hb htb u_P t_P t_P_ok n_P hown hK hP hD hS 0 rfl rfl 2 (by decide) (htb _ q34) (fun _ h9 => h9) rfl (by decide +kernel) rfl rfl (Nat.le_of_ble_eq_true rfl) d_P_putRules_2 (fun H locs hP hD hS => ?_)
  have hP : va_P D cls (wP ad ca (up2 P 0 2 x)) H := hP
  have hD : va_D A (wP ad ca (up2 P 0 2 x)) := hD
  refine lv_aload_n hx hb d_P_putRules_5 rfl (lv_at hl 0 rfl) ?_
  refine lv_iload_n hx hb d_P_putRules_6 rfl (lv_at hl 2 rfl) ?_
  refine va_put (D := D) (ci := 0) (v := .int (nI y)) (ty := .int) (C := R_P) (T := F_P) (N := 12) hx hb htb u_P t_P t_P_ok n_P hown hK hP hD hS 0 rfl rfl 3 (by decide) (htb _ q35) (fun _ h9 => h9) rfl (by decide +kernel) rfl rfl (Nat.le_of_ble_eq_true rfl) d_P_putRules_7 (fun H locs hP hD hS => ?_)
  have hP : va_P D cls (wP ad ca (up2 (up2 P 0 2 x) 0 3 y)) H := hP
  have hD : va_D A (wP ad ca (up2 (up2 P 0 2 x) 0 3 y)) := hD
  refine lv_aload_n hx hb d_P_putRules_10 rfl (lv_at hl 0 rfl) ?_
  refine lv_iload_n hx hb d_P_putRules_11 rfl (lv_at hl 3 rfl) ?_
  refine va_put (D := D) (ci := 0) (v := .int (nI z)) (ty := .int) (C := R_P) (T := F_P) (N := 12) hx hb htb u_P t_P t_P_ok n_P hown hK hP hD hS 0 rfl rfl 4 (by decide) (htb _ q37) (fun _ h9 => h9) rfl (by decide +kernel) rfl rfl (Nat.le_of_ble_eq_true rfl) d_P_putRules_12 (fun H locs hP hD hS => ?_)
  have hP : va_P D cls (wP ad ca (up2 (up2 (up2 P 0 2 x) 0 3 y) 0 4 z)) H := hP
  have hD : va_D A (wP ad ca (up2 (up2 (up2 P 0 2 x) 0 3 y) 0 4 z)) := hD
  exact W.vret hx hb hr (fun t ht hW => ⟨⟨(), rfl, trivial, by rw [ht]; exact hP, hD⟩, hS.F ht⟩) hS.2.2 d_P_putRules_15
set_option maxHeartbeats 4000000 in
set_option maxRecDepth 100000 in
theorem c_P_addWish (l : Launch) (D : va_G) (ad : Nat → Nat) (ca : Nat → ClassId) (P : Nat → Nat → Nat) (fc sf wb wt : Nat) (hfc : fc + 3 < 168) (hsf : sf ≤ 3) (hwb : wb ≤ 1) (sz : Nat) : Met l y_P_addWish w_P_addWish { frames := 0, cells := 0, slots := 0, locals := 0 } (rw_P [.ref (ad 1), .int (nI fc), .int (nI sf), .int (nI wb), .int (nI wt)] D (wP ad ca P) (tP ca) sz) (rw_Qi (fun (r : Int32) (u : Unit) => r = nI (P 0 5)) D (wP ad ca P) (fun u => wP ad ca (up2 (aw fc sf wb wt 4 0 P) 0 5 (P 0 5 + 1))) sz) 0 0 (va_A (wP ad ca P) sz) := by
  refine Met.ofW (cc := b_P_addWish) (maxL := 7) (ret := (some .int)) (by decide) rfl ?_
  intro p e s m args below meth c s₁ B hml hv
  obtain ⟨rfl, hsz, hN, hP, hK, hD0⟩ := hv
  have hx := B.exec
  have hb := B.bytes
  have hr := B.returns
  have hts := atoms_spec (ws := w_P_addWish) B.pre
  have htb : ∀ w ∈ TBG, w.before [.ref (ad 1), .int (nI fc), .int (nI sf), .int (nI wb), .int (nI wt)].toArray s = true := fun w h => hts w (List.mem_cons_of_mem _ h)
  have hown : s.vm.findClass R_P = some m.cls := findClass_of_methodNamed B.named
  have hlocks := B.notSynchronized
  subst hsz
  have hD := hD0.self (sz := s.heap.size)
  unfold rw_Qi
  generalize hAe : va_A (wP ad ca P) s.heap.size = A at hD ⊢
  have hA : ∀ q : Nat, s.heap.size ≤ q → A q := fun q h => by rw [← hAe]; exact Or.inr h
  have hS : va_S A s.heap s.heap [] := va_S.rf
  have hl := lv_entry ([.ref (ad 1), .int (nI fc), .int (nI sf), .int (nI wb), .int (nI wt)]) (n := 7) (Nat.le_of_ble_eq_true rfl)
  rw [lg_entry_eq]
  generalize (lg_sl ([.ref (ad 1), .int (nI fc), .int (nI sf), .int (nI wb), .int (nI wt)]) ++ List.replicate (7 - (lg_sl ([.ref (ad 1), .int (nI fc), .int (nI sf), .int (nI wb), .int (nI wt)])).length) Slot.unset).toArray = ls at hl ⊢
  have hl : lv_has ls 7 [(0, .ref (ad 1)), (1, .int (nI fc)), (2, .int (nI sf)), (3, .int (nI wb)), (4, .int (nI wt))] := hl
  refine nr_start hP hS (fun H locs hP hS => ?_)
  refine nr_iconst hx hb 0 d_P_addWish_0 (by decide) ?_
  refine lv_istore (lv' := [(5, .int (nI 0)), (0, .ref (ad 1)), (1, .int (nI fc)), (2, .int (nI sf)), (3, .int (nI wb)), (4, .int (nI wt))]) hx hb d_P_addWish_1 hl (by decide) rfl (fun ls hl => ?_)
  replace hP : ∃ (k o : Nat) (P1 : Nat → Nat → Nat), (o + k = 4) ∧ (∀ r, r ≠ 6 → P1 r = P r) ∧ (aw fc sf wb wt k o P1 = aw fc sf wb wt 4 0 P) ∧ lv_has ls 7 [(0, .ref (ad 1)), (1, .int (nI fc)), (2, .int (nI sf)), (3, .int (nI wb)), (4, .int (nI wt)), (5, .int (nI o))] ∧ va_P D cls (wP ad ca P1) H ∧ va_D A (wP ad ca P1) ∧ va_S A s.heap H locs := ⟨4, 0, P, rfl, fun _ _ => rfl, rfl, lv_sub hl [1, 2, 3, 4, 5, 0] rfl, hP, hD, hS⟩
  clear hl hD hS
  obtain ⟨k, o, P1, hk, hrr, hres, hl, hP, hD, hS⟩ := hP
  induction k generalizing o P1 ls H locs with
  | zero =>
    refine lv_iload hx hb d_P_addWish_3 (lv_at hl 5 rfl) ?_
    refine nr_iconst hx hb 3 d_P_addWish_5 (by decide) ?_
    refine nr_icmp_gt (tgt := 56) hx hb (by omega) (by omega) d_P_addWish_6 (by decide) (fun c_6 => ?_) (fun c_6 => by exfalso; omega)
    refine lv_aload_n hx hb d_P_addWish_56 rfl (lv_at hl 0 rfl) ?_
    refine va_get (D := D) (ci := 0) (v := .int (nI (P1 0 5))) (C := R_P) (T := F_P) (N := 12) hx hb htb u_P hown hK hP 0 rfl rfl 5 (by decide) (htb _ q39) (fun _ h9 => h9) rfl d_P_addWish_57 ?_
    refine lv_istore (lv' := [(5, .int (nI (P1 0 5))), (0, .ref (ad 1)), (1, .int (nI fc)), (2, .int (nI sf)), (3, .int (nI wb)), (4, .int (nI wt))]) hx hb d_P_addWish_60 hl (by decide) rfl (fun ls hl => ?_)
    refine lv_aload_n hx hb d_P_addWish_62 rfl (lv_at hl 1 rfl) ?_
    refine lv_dup hx hb d_P_addWish_63 rfl ?_
    refine va_get (D := D) (ci := 0) (v := .int (nI (P1 0 5))) (C := R_P) (T := F_P) (N := 12) hx hb htb u_P hown hK hP 0 rfl rfl 5 (by decide) (htb _ q39) (fun _ h9 => h9) rfl d_P_addWish_64 ?_
    refine nr_iconst hx hb 1 d_P_addWish_67 (by decide) ?_
    refine nr_iadd hx hb d_P_addWish_68 ?_
    refine va_put (D := D) (ci := 0) (v := .int (nI ((P1 0 5) + 1))) (ty := .int) (C := R_P) (T := F_P) (N := 12) hx hb htb u_P t_P t_P_ok n_P hown hK hP hD hS 0 rfl rfl 5 (by decide) (htb _ q39) (fun _ h9 => h9) rfl (by decide +kernel) rfl rfl (Nat.le_of_ble_eq_true rfl) d_P_addWish_69 (fun H locs hP hD hS => ?_)
    have hP : va_P D cls (wP ad ca (up2 P1 0 5 ((P1 0 5) + 1))) H := hP
    have hD : va_D A (wP ad ca (up2 P1 0 5 ((P1 0 5) + 1))) := hD
    refine lv_iload hx hb d_P_addWish_72 (lv_at hl 0 rfl) ?_
    have e05 : P1 0 5 = P 0 5 := congrFun (hrr 0 (by decide)) 5
    have hfin : P1 = aw fc sf wb wt 4 0 P := by rw [← hres]; rfl
    rw [e05, hfin] at hP hD
    exact W.iret (v := (nI (P1 0 5))) hx hb hr (fun t ht hW => ⟨⟨_, (), rfl, by rw [e05], by rw [ht]; exact hP, hD⟩, hS.F ht⟩) hS.2.2 d_P_addWish_74
  | succ k ih_3 =>
    refine lv_iload hx hb d_P_addWish_3 (lv_at hl 5 rfl) ?_
    refine nr_iconst hx hb 3 d_P_addWish_5 (by decide) ?_
    refine nr_icmp_gt (tgt := 56) hx hb (by omega) (by omega) d_P_addWish_6 (by decide) (fun c_6 => by exfalso; omega) (fun c_6 => ?_)
    refine lv_iload hx hb d_P_addWish_9 (lv_at hl 5 rfl) ?_
    refine lv_iload_n hx hb d_P_addWish_11 rfl (lv_at hl 2 rfl) ?_
    refine nr_icmp_ne (tgt := 19) hx hb (by omega) (by omega) d_P_addWish_12 (by decide) (fun c_12 => ?_) (fun c_12 => ?_)
    · refine nr_iconst hx hb 0 d_P_addWish_19 (by decide) ?_
      refine lv_iload_n hx hb d_P_addWish_20 rfl (lv_at hl 3 rfl) ?_
      refine nr_icmp_ne (tgt := 28) hx hb (by omega) (by omega) d_P_addWish_21 (by decide) (fun c_21 => ?_) (fun c_21 => ?_)
      · refine nr_iconst hx hb 0 d_P_addWish_28 (by decide) ?_
        refine lv_istore (lv' := [(6, .int (nI 0)), (0, .ref (ad 1)), (1, .int (nI fc)), (2, .int (nI sf)), (3, .int (nI wb)), (4, .int (nI wt)), (5, .int (nI o))]) hx hb d_P_addWish_29 hl (by decide) rfl (fun ls hl => ?_)
        refine lv_iload hx hb d_P_addWish_31 (lv_at hl 0 rfl) ?_
        refine nr_if_ne (tgt := 50) hx hb (by omega) d_P_addWish_33 (by decide) (fun c_33 => by exfalso; omega) (fun c_33 => ?_)
        refine lv_aload_n hx hb d_P_addWish_36 rfl (lv_at hl 1 rfl) ?_
        refine va_get (D := D) (ci := 0) (v := .ref (ad 8)) (C := R_P) (T := F_P) (N := 12) hx hb htb u_P hown hK hP 0 rfl rfl 11 (by decide) (htb _ q48) (fun _ h9 => h9) rfl d_P_addWish_37 ?_
        refine lv_iload_n hx hb d_P_addWish_40 rfl (lv_at hl 2 rfl) ?_
        refine lv_iload hx hb d_P_addWish_41 (lv_at hl 6 rfl) ?_
        refine nr_iadd hx hb d_P_addWish_43 ?_
        refine lv_dup2_11 hx hb d_P_addWish_44 rfl rfl ?_
        refine nr_iald hx hb hK hP 6 5 rfl rfl (by omega) (by decide) d_P_addWish_45 ?_
        refine lv_iload hx hb d_P_addWish_46 (lv_at hl 5 rfl) ?_
        refine nr_iadd hx hb d_P_addWish_48 ?_
        refine nr_iast hx hb hK hP hD hS 6 5 rfl rfl (by omega) (by decide) d_P_addWish_49 (fun H locs hP hD hS => ?_)
        have hP : va_P D cls (wP ad ca (up2 P1 6 (fc + o) ((P1 6 (fc + o)) + wt))) H := hP
        have hD : va_D A (wP ad ca (up2 P1 6 (fc + o) ((P1 6 (fc + o)) + wt))) := hD
        refine nr_iinc (k := 6) (lv' := [(5, .int (nI (o + 1))), (6, .int (nI 0)), (0, .ref (ad 1)), (1, .int (nI fc)), (2, .int (nI sf)), (3, .int (nI wb)), (4, .int (nI wt))]) hx hb d_P_addWish_50 hl rfl (by decide) rfl (fun ls hl => ?_)
        refine lv_goto (tgt := 3) hx hb d_P_addWish_53 (by decide) ?_
        exact ih_3 _ _ _ _ _ (by omega) (fun r h => by rw [← hrr r h]; funext k; simp [up2, h]) (by rw [← hres, aw, if_neg (by rw [if_neg c_12]; exact c_21)]) (lv_sub hl [2, 3, 4, 5, 6, 0] rfl) hP hD hS
      · refine nr_iconst hx hb 1 d_P_addWish_24 (by decide) ?_
        refine lv_goto (tgt := 29) hx hb d_P_addWish_25 (by decide) ?_
        refine lv_istore (lv' := [(6, .int (nI 1)), (0, .ref (ad 1)), (1, .int (nI fc)), (2, .int (nI sf)), (3, .int (nI wb)), (4, .int (nI wt)), (5, .int (nI o))]) hx hb d_P_addWish_29 hl (by decide) rfl (fun ls hl => ?_)
        refine lv_iload hx hb d_P_addWish_31 (lv_at hl 0 rfl) ?_
        refine nr_if_ne (tgt := 50) hx hb (by omega) d_P_addWish_33 (by decide) (fun c_33 => ?_) (fun c_33 => by exfalso; omega)
        refine nr_iinc (k := 6) (lv' := [(5, .int (nI (o + 1))), (6, .int (nI 1)), (0, .ref (ad 1)), (1, .int (nI fc)), (2, .int (nI sf)), (3, .int (nI wb)), (4, .int (nI wt))]) hx hb d_P_addWish_50 hl rfl (by decide) rfl (fun ls hl => ?_)
        refine lv_goto (tgt := 3) hx hb d_P_addWish_53 (by decide) ?_
        exact ih_3 _ _ _ _ _ (by omega) hrr (by rw [← hres, aw, if_pos (by rw [if_neg c_12]; exact c_21)]) (lv_sub hl [2, 3, 4, 5, 6, 0] rfl) hP hD hS
    · refine nr_iconst hx hb 1 d_P_addWish_15 (by decide) ?_
      refine lv_goto (tgt := 20) hx hb d_P_addWish_16 (by decide) ?_
      refine lv_iload_n hx hb d_P_addWish_20 rfl (lv_at hl 3 rfl) ?_
      refine nr_icmp_ne (tgt := 28) hx hb (by omega) (by omega) d_P_addWish_21 (by decide) (fun c_21 => ?_) (fun c_21 => ?_)
      · refine nr_iconst hx hb 0 d_P_addWish_28 (by decide) ?_
        refine lv_istore (lv' := [(6, .int (nI 0)), (0, .ref (ad 1)), (1, .int (nI fc)), (2, .int (nI sf)), (3, .int (nI wb)), (4, .int (nI wt)), (5, .int (nI o))]) hx hb d_P_addWish_29 hl (by decide) rfl (fun ls hl => ?_)
        refine lv_iload hx hb d_P_addWish_31 (lv_at hl 0 rfl) ?_
        refine nr_if_ne (tgt := 50) hx hb (by omega) d_P_addWish_33 (by decide) (fun c_33 => by exfalso; omega) (fun c_33 => ?_)
        refine lv_aload_n hx hb d_P_addWish_36 rfl (lv_at hl 1 rfl) ?_
        refine va_get (D := D) (ci := 0) (v := .ref (ad 8)) (C := R_P) (T := F_P) (N := 12) hx hb htb u_P hown hK hP 0 rfl rfl 11 (by decide) (htb _ q48) (fun _ h9 => h9) rfl d_P_addWish_37 ?_
        refine lv_iload_n hx hb d_P_addWish_40 rfl (lv_at hl 2 rfl) ?_
        refine lv_iload hx hb d_P_addWish_41 (lv_at hl 6 rfl) ?_
        refine nr_iadd hx hb d_P_addWish_43 ?_
        refine lv_dup2_11 hx hb d_P_addWish_44 rfl rfl ?_
        refine nr_iald hx hb hK hP 6 5 rfl rfl (by omega) (by decide) d_P_addWish_45 ?_
        refine lv_iload hx hb d_P_addWish_46 (lv_at hl 5 rfl) ?_
        refine nr_iadd hx hb d_P_addWish_48 ?_
        refine nr_iast hx hb hK hP hD hS 6 5 rfl rfl (by omega) (by decide) d_P_addWish_49 (fun H locs hP hD hS => ?_)
        have hP : va_P D cls (wP ad ca (up2 P1 6 (fc + o) ((P1 6 (fc + o)) + wt))) H := hP
        have hD : va_D A (wP ad ca (up2 P1 6 (fc + o) ((P1 6 (fc + o)) + wt))) := hD
        refine nr_iinc (k := 6) (lv' := [(5, .int (nI (o + 1))), (6, .int (nI 0)), (0, .ref (ad 1)), (1, .int (nI fc)), (2, .int (nI sf)), (3, .int (nI wb)), (4, .int (nI wt))]) hx hb d_P_addWish_50 hl rfl (by decide) rfl (fun ls hl => ?_)
        refine lv_goto (tgt := 3) hx hb d_P_addWish_53 (by decide) ?_
        exact ih_3 _ _ _ _ _ (by omega) (fun r h => by rw [← hrr r h]; funext k; simp [up2, h]) (by rw [← hres, aw, if_neg (by rw [if_pos c_12]; exact c_21)]) (lv_sub hl [2, 3, 4, 5, 6, 0] rfl) hP hD hS
      · refine nr_iconst hx hb 1 d_P_addWish_24 (by decide) ?_
        refine lv_goto (tgt := 29) hx hb d_P_addWish_25 (by decide) ?_
        refine lv_istore (lv' := [(6, .int (nI 1)), (0, .ref (ad 1)), (1, .int (nI fc)), (2, .int (nI sf)), (3, .int (nI wb)), (4, .int (nI wt)), (5, .int (nI o))]) hx hb d_P_addWish_29 hl (by decide) rfl (fun ls hl => ?_)
        refine lv_iload hx hb d_P_addWish_31 (lv_at hl 0 rfl) ?_
        refine nr_if_ne (tgt := 50) hx hb (by omega) d_P_addWish_33 (by decide) (fun c_33 => ?_) (fun c_33 => by exfalso; omega)
        refine nr_iinc (k := 6) (lv' := [(5, .int (nI (o + 1))), (6, .int (nI 1)), (0, .ref (ad 1)), (1, .int (nI fc)), (2, .int (nI sf)), (3, .int (nI wb)), (4, .int (nI wt))]) hx hb d_P_addWish_50 hl rfl (by decide) rfl (fun ls hl => ?_)
        refine lv_goto (tgt := 3) hx hb d_P_addWish_53 (by decide) ?_
        exact ih_3 _ _ _ _ _ (by omega) hrr (by rw [← hres, aw, if_pos (by rw [if_pos c_12]; exact c_21)]) (lv_sub hl [2, 3, 4, 5, 6, 0] rfl) hP hD hS

theorem dv_n {d n p : Nat} (h : p < n) : (d * n + p) / n = d := by rw [Nat.mul_comm, Nat.mul_add_div (by omega), Nat.div_eq_of_lt h, Nat.add_zero]
theorem md_n {d n p : Nat} (h : p < n) : (d * n + p) % n = p := by rw [Nat.mul_comm, Nat.mul_add_mod, Nat.mod_eq_of_lt h]
theorem pz_z {c : Prop} [Decidable c] (h : (if c then 1 else 0 : Nat) = 0) : ¬ c := fun q => by rw [if_pos q] at h; cases h
theorem pz_nz {c : Prop} [Decidable c] (h : (if c then 1 else 0 : Nat) ≠ 0) : c := Decidable.byContradiction (fun q => h (if_neg q))
theorem pz_lt {c : Prop} [Decidable c] : (if c then 1 else 0 : Nat) < 2147483648 := by split <;> decide
theorem cnt_le (tr : Nat → Nat) (p : Nat) : ∀ k, cnt tr p k ≤ k := by
  intro k
  induction k with
  | zero => simp [cnt]
  | succ k ih => rw [cnt]; split <;> omega
theorem run_le (tr : Nat → Nat) (p : Nat) : ∀ k, run tr p k ≤ k := by
  intro k
  induction k with
  | zero => simp [run]
  | succ k ih => rw [run]; split <;> omega
theorem rowS_le {P : Nat → Nat → Nat} (h : okP P) (tr : Nat → Nat) (d : Nat) : ∀ k, rowS P tr d k ≤ 2000 * k := by
  intro k
  induction k with
  | zero => simp [rowS]
  | succ k ih => have := h.2.2.2.2.2.2.2.2.2.2.2 ((d * 6 + k) * 4 + tr (d * 6 + k)); rw [rowS]; omega
theorem daysS_le {P : Nat → Nat → Nat} (h : okP P) (tr : Nat → Nat) : ∀ k, daysS P tr k ≤ 12000 * k := by
  intro k
  induction k with
  | zero => simp [daysS]
  | succ k ih => have := rowS_le h tr k (P 0 0); have := h.1; rw [daysS]; omega
theorem unm_le {P : Nat → Nat → Nat} (h : okP P) (tr : Nat → Nat) (d p : Nat) (hd : d < 7) (hp : p < P 0 0) : unm P tr d p ≤ 100000 := by
  have := rowS_le h tr d (p + 1)
  have := daysS_le h tr d
  have := h.1
  unfold unm
  omega
set_option maxHeartbeats 4000000 in
set_option maxRecDepth 100000 in
theorem c_M_nightsTo (l : Launch) (D : va_G) (a : Nat) (cS : ClassId) (sh : Nat → Nat) (hsh : ∀ k, sh k ≤ 3) (p1 d : Nat) (hp : p1 < 6) (hd : d < 7) : Met l y_M_nightsTo w_M_nightsTo { frames := 0, cells := 0, slots := 0, locals := 0 } (ro_P [.ref a, .int (nI p1), .int (nI d)] D ([(a, .inl (cS, 42, .inl (fun k => nI (sh k))))]) ([(cS, .int)])) (vp_Si (fun r => r = nI (run sh p1 (d + 1)))) 0 0 (fun _ => False) := by
  refine Met.ofW (cc := b_M_nightsTo) (maxL := 5) (ret := (some .int)) (by decide) rfl ?_
  intro p e s m args below meth c s₁ B hml hv
  obtain ⟨rfl, hN, hP, hK⟩ := hv
  have hx := B.exec
  have hb := B.bytes
  have hr := B.returns
  have hts := atoms_spec (ws := w_M_nightsTo) B.pre
  have htb : ∀ w ∈ TBG, w.before [.ref a, .int (nI p1), .int (nI d)].toArray s = true := fun w h => hts w (List.mem_cons_of_mem _ h)
  have hown : s.vm.findClass R_M = some m.cls := findClass_of_methodNamed B.named
  have hlocks := B.notSynchronized
  have hl := lv_entry ([.ref a, .int (nI p1), .int (nI d)]) (n := 5) (Nat.le_of_ble_eq_true rfl)
  rw [lg_entry_eq]
  generalize (lg_sl ([.ref a, .int (nI p1), .int (nI d)]) ++ List.replicate (5 - (lg_sl ([.ref a, .int (nI p1), .int (nI d)])).length) Slot.unset).toArray = ls at hl ⊢
  have hl : lv_has ls 5 [(0, .ref a), (1, .int (nI p1)), (2, .int (nI d))] := hl
  refine nr_iconst hx hb 0 d_M_nightsTo_0 (by decide) ?_
  refine lv_istore_n (lv' := [(3, .int (nI 0)), (0, .ref a), (1, .int (nI p1)), (2, .int (nI d))]) hx hb d_M_nightsTo_1 rfl hl (by decide) rfl (fun ls hl => ?_)
  refine lv_iload_n hx hb d_M_nightsTo_2 rfl (lv_at hl 3 rfl) ?_
  refine nr_top (y := nI (d + 1) + (-1)) (pk_m1 d).symm ?_
  refine lv_istore (lv' := [(4, .int (nI (d + 1) + (-1))), (3, .int (nI 0)), (0, .ref a), (1, .int (nI p1)), (2, .int (nI d))]) hx hb d_M_nightsTo_3 hl (by decide) rfl (fun ls hl => ?_)
  replace hl : ∃ k acc : Nat, (k ≤ d + 1) ∧ (acc + run sh p1 k = run sh p1 (d + 1)) ∧ lv_has ls 5 [(0, .ref a), (1, .int (nI p1)), (2, .int (nI d)), (3, .int (nI acc)), (4, .int (nI k + (-1)))] := ⟨d + 1, 0, Nat.le_refl _, Nat.zero_add _, lv_sub hl [2, 3, 4, 1, 0] rfl⟩
  obtain ⟨k, acc, hk, hacc, hl⟩ := hl
  induction k generalizing acc ls with
  | zero =>
    refine lv_iload hx hb d_M_nightsTo_5 (lv_at hl 4 rfl) ?_
    refine lv_if_lt (tgt := 32) hx hb d_M_nightsTo_7 (by decide) (fun c_7 => ?_) (fun c_7 => absurd (by decide) c_7)
    refine lv_iload_n hx hb d_M_nightsTo_32 rfl (lv_at hl 3 rfl) ?_
    exact W.iret (v := (nI acc)) hx hb hr (fun t ht hW => ⟨_, rfl, by rw [← hacc, run, Nat.add_zero], ht⟩) (fun q h => by cases h) d_M_nightsTo_33
  | succ k ih_5 =>
    rw [pk_m1] at hl
    refine lv_iload hx hb d_M_nightsTo_5 (lv_at hl 4 rfl) ?_
    refine nr_if_lt (tgt := 32) hx hb (by omega) d_M_nightsTo_7 (by decide) (fun c_7 => c_7.elim) (fun c_7 => ?_)
    refine lv_aload_n hx hb d_M_nightsTo_10 rfl (lv_at hl 0 rfl) ?_
    refine nr_bipush hx hb 6 d_M_nightsTo_11 (by decide) ?_
    refine lv_iload hx hb d_M_nightsTo_13 (lv_at hl 4 rfl) ?_
    refine nr_imul hx hb d_M_nightsTo_15 ?_
    refine nr_top (y := nI (k * 6)) (congrArg nI (Nat.mul_comm _ _)) ?_
    refine lv_iload_n hx hb d_M_nightsTo_16 rfl (lv_at hl 1 rfl) ?_
    refine nr_iadd hx hb d_M_nightsTo_17 ?_
    refine nr_iald hx hb hK hP 0 0 rfl rfl (by omega) (by decide) d_M_nightsTo_18 ?_
    have hv_1 := hsh ((k * 6) + p1)
    refine nr_iconst hx hb 3 d_M_nightsTo_19 (by decide) ?_
    refine nr_icmp_ne (tgt := 32) hx hb (by omega) (by omega) d_M_nightsTo_20 (by decide) (fun c_20 => ?_) (fun c_20 => ?_)
    · refine lv_iload_n hx hb d_M_nightsTo_32 rfl (lv_at hl 3 rfl) ?_
      exact W.iret (v := (nI acc)) hx hb hr (fun t ht hW => ⟨_, rfl, by rw [← hacc, run, if_neg c_20, Nat.add_zero], ht⟩) (fun q h => by cases h) d_M_nightsTo_33
    · refine nr_iinc (k := 3) (lv' := [(3, .int (nI (acc + 1))), (0, .ref a), (1, .int (nI p1)), (2, .int (nI d)), (4, .int (nI k))]) hx hb d_M_nightsTo_23 hl rfl (by decide) rfl (fun ls hl => ?_)
      refine lv_iinc (v := (nI k + (-1))) (lv' := [(4, .int (nI k + (-1))), (3, .int (nI (acc + 1))), (0, .ref a), (1, .int (nI p1)), (2, .int (nI d))]) hx hb d_M_nightsTo_26 hl (k := 4) rfl (by rfl) (by decide) rfl (fun ls hl => ?_)
      refine lv_goto (tgt := 5) hx hb d_M_nightsTo_29 (by decide) ?_
      exact ih_5 _ _ (by omega) (by rw [← hacc, run, if_pos c_20]; omega) (lv_sub hl [2, 3, 4, 1, 0] rfl)
set_option maxHeartbeats 4000000 in
set_option maxRecDepth 100000 in
theorem c_M_givesUp (l : Launch) (D : va_G) (am : Nat → Nat) (cm : Nat → ClassId) (P G X : Nat → Nat → Nat) (hP0 : okP P) (hG0 : okG G) (hX0 : okX X) (d p1 rt le pl : Nat) (lv : Int32) (hp : p1 < P 0 0) (hd : d < P 0 1) (hpl : pl = d * P 0 0 + p1) (hle : (rt = 0 ∧ lv = -1) ∨ (0 < rt ∧ le ≤ 100000 ∧ lv = nI le)) (hut : utM P X (X 1) pl = unm P (X 1) d p1) (hb0 : ∀ c, P 5 (c * 4) = 0) : Met l y_M_givesUp w_M_givesUp { frames := 2, cells := 0, slots := 0, locals := 48 } (ro_P [.ref (am 0), .int (nI pl), .int lv] D (wM am cm P G X) (tM cm)) (vp_Si (fun r => r = nI (if gu P (X 1) d p1 rt le = true then 1 else 0))) 0 0 (fun _ => False) := by
  refine Met.ofW (cc := b_M_givesUp) (maxL := 6) (ret := (some .boolean)) (by decide) rfl ?_
  intro p e s m args below meth c s₁ B hml hv
  obtain ⟨rfl, hN, hP, hK⟩ := hv
  have hx := B.exec
  have hb := B.bytes
  have hr := B.returns
  have hts := atoms_spec (ws := w_M_givesUp) B.pre
  have htb : ∀ w ∈ TBG, w.before [.ref (am 0), .int (nI pl), .int lv].toArray s = true := fun w h => hts w (List.mem_cons_of_mem _ h)
  have hown : s.vm.findClass R_M = some m.cls := findClass_of_methodNamed B.named
  have hlocks := B.notSynchronized
  have hl := lv_entry ([.ref (am 0), .int (nI pl), .int lv]) (n := 6) (Nat.le_of_ble_eq_true rfl)
  rw [lg_entry_eq]
  generalize (lg_sl ([.ref (am 0), .int (nI pl), .int lv]) ++ List.replicate (6 - (lg_sl ([.ref (am 0), .int (nI pl), .int lv])).length) Slot.unset).toArray = ls at hl ⊢
  have hl : lv_has ls 6 [(0, .ref (am 0)), (1, .int (nI pl)), (2, .int lv)] := hl
  obtain ⟨h00, h01, h02, h03, h04, h05, hp1, hp2, hp3, hp4, hp5, hp6⟩ := id hP0
  obtain ⟨k00, k01, hg1, hg2⟩ := id hG0
  obtain ⟨x00, x01, x02, x03, hx1, hx2, hx3, hx4, hx5, hx6, hx7⟩ := id hX0
  have hdv : pl / P 0 0 = d := by rw [hpl]; exact dv_n hp
  have hmd : pl % P 0 0 = p1 := by rw [hpl]; exact md_n hp
  have hmul : d * P 0 0 ≤ 6 * 6 := Nat.mul_le_mul (by omega) h00
  have hc7 := cnt_le (X 1) p1 (d + 1)
  have hr7 := run_le (X 1) p1 (d + 1)
  have hun := unm_le hP0 (X 1) d p1 (by omega) hp
  rcases hle with ⟨hrt, rfl⟩ | ⟨hrt, hle1, rfl⟩
  · refine lv_iload_n hx hb d_M_givesUp_0 rfl (lv_at hl 1 rfl) ?_
    refine lv_aload_n hx hb d_M_givesUp_1 rfl (lv_at hl 0 rfl) ?_
    refine va_get (D := D) (ci := 3) (v := .int (nI (P 0 0))) (C := R_M) (T := F_M) (N := 26) hx hb htb u_M hown hK hP 0 rfl rfl 1 (by decide) (htb _ q580) (fun _ h9 => h9) rfl d_M_givesUp_2 ?_
    refine nr_idiv hx hb (by omega) (by omega) (by omega) d_M_givesUp_5 ?_
    refine nr_top (y := nI d) (congrArg nI hdv) ?_
    refine lv_istore_n (lv' := [(3, .int (nI d)), (0, .ref (am 0)), (1, .int (nI pl)), (2, .int (-1))]) hx hb d_M_givesUp_6 rfl hl (by decide) rfl (fun ls hl => ?_)
    refine lv_iload_n hx hb d_M_givesUp_7 rfl (lv_at hl 2 rfl) ?_
    refine lv_aload_n hx hb d_M_givesUp_8 rfl (lv_at hl 1 rfl) ?_
    refine va_get (D := D) (ci := 3) (v := .int (nI (P 0 0))) (C := R_M) (T := F_M) (N := 26) hx hb htb u_M hown hK hP 0 rfl rfl 1 (by decide) (htb _ q580) (fun _ h9 => h9) rfl d_M_givesUp_9 ?_
    refine nr_irem hx hb (by omega) (by omega) (by omega) d_M_givesUp_12 ?_
    refine nr_top (y := nI p1) (congrArg nI hmd) ?_
    refine lv_istore (lv' := [(4, .int (nI p1)), (3, .int (nI d)), (0, .ref (am 0)), (1, .int (nI pl)), (2, .int (-1))]) hx hb d_M_givesUp_13 hl (by decide) rfl (fun ls hl => ?_)
    refine lv_aload_n hx hb d_M_givesUp_15 rfl (lv_at hl 2 rfl) ?_
    refine va_get (D := D) (ci := 3) (v := .ref (am 4)) (C := R_M) (T := F_M) (N := 26) hx hb htb u_M hown hK hP 0 rfl rfl 7 (by decide) (htb _ q586) (fun _ h9 => h9) rfl d_M_givesUp_16 ?_
    refine nr_bipush hx hb 6 d_M_givesUp_19 (by decide) ?_
    refine lv_iload_n hx hb d_M_givesUp_21 rfl (lv_at hl 1 rfl) ?_
    refine nr_imul hx hb d_M_givesUp_22 ?_
    refine nr_top (y := nI (d * 6)) (congrArg nI (Nat.mul_comm _ _)) ?_
    refine lv_iload hx hb d_M_givesUp_23 (lv_at hl 0 rfl) ?_
    refine nr_iadd hx hb d_M_givesUp_25 ?_
    refine nr_iald hx hb hK hP 4 3 rfl rfl (by omega) (by decide) d_M_givesUp_26 ?_
    have hv_1 := hx1 ((d * 6) + p1)
    refine lv_istore (lv' := [(5, .int (nI (X 1 ((d * 6) + p1)))), (4, .int (nI p1)), (3, .int (nI d)), (0, .ref (am 0)), (1, .int (nI pl)), (2, .int (-1))]) hx hb d_M_givesUp_27 hl (by decide) rfl (fun ls hl => ?_)
    refine lv_aload_n hx hb d_M_givesUp_29 rfl (lv_at hl 3 rfl) ?_
    refine lv_aload_n hx hb d_M_givesUp_30 rfl (lv_at hl 3 rfl) ?_
    refine va_get (D := D) (ci := 3) (v := .ref (am 4)) (C := R_M) (T := F_M) (N := 26) hx hb htb u_M hown hK hP 0 rfl rfl 7 (by decide) (htb _ q586) (fun _ h9 => h9) rfl d_M_givesUp_31 ?_
    refine lv_iload hx hb d_M_givesUp_34 (lv_at hl 1 rfl) ?_
    refine lv_iload_n hx hb d_M_givesUp_36 rfl (lv_at hl 2 rfl) ?_
    refine nr_calli (va_runV (As := [.ref (am 4), .int (nI p1), .int (nI d)]) (rest := []) ⟨hx, hb, hml, hown, hts⟩ (c_M_isTired l D am cm P G X (am 4) (cm 3) (X 1) hP0 hG0 hX0 hx1 p1 d (by omega) (by omega)) ⟨callB_of 3 hts (gTB q_M_isTired) rfl rfl rfl (htb _ q4) (htb _ q729) hd_M_isTired ⟨Nat.le_of_ble_eq_true rfl, Nat.le_of_ble_eq_true rfl⟩, (htb _ q731), (htb _ sel_M_isTired)⟩ ⟨ro_blind, va_recv (hK.sub (tys' := []) [] rfl) hP (ci := 3) (q0 := 0) rfl rfl, ro_pre hN (hP.sub (ws' := (wMS am cm P G X (am 4) (cm 3) (X 1))) [0, 1, 2, 3, 4, 5, 6, 7, 8, 9, 10, 11, 12, 13, 14, 4] rfl) (hK.sub (tys' := (tMS cm (cm 3))) [0, 1, 2, 3, 4, 5, 6, 7, 8, 9, 10, 11, 12, 13, 3] rfl)⟩ rfl rfl hl.1 rfl (lv_room (Nat.le_of_ble_eq_true rfl)) d_M_givesUp_37 ⟨Nat.le_of_ble_eq_true rfl, Nat.le_of_ble_eq_true rfl⟩) (fun r_2 hr_2 => ?_)
    subst hr_2
    refine nr_if_ne (tgt := 77) hx hb b01_lt d_M_givesUp_40 (by decide) (fun c_40 => ?_) (fun c_40 => ?_)
    · refine nr_iconst hx hb 1 d_M_givesUp_77 (by decide) ?_
      exact W.zret (v := (nI 1)) hx hb hr rfl (fun t ht hW => ⟨_, rfl, by rw [gu, decide_eq_true (Or.inl (b01_nz c_40))]; rfl, ht⟩) (fun q h => by cases h) d_M_givesUp_78
    · refine lv_aload_n hx hb d_M_givesUp_43 rfl (lv_at hl 3 rfl) ?_
      refine va_get (D := D) (ci := 3) (v := .ref (am 4)) (C := R_M) (T := F_M) (N := 26) hx hb htb u_M hown hK hP 0 rfl rfl 7 (by decide) (htb _ q586) (fun _ h9 => h9) rfl d_M_givesUp_44 ?_
      refine lv_iload hx hb d_M_givesUp_47 (lv_at hl 1 rfl) ?_
      refine lv_iload_n hx hb d_M_givesUp_49 rfl (lv_at hl 2 rfl) ?_
      refine nr_calli (va_runS (As := [.ref (am 4), .int (nI p1), .int (nI d)]) (rest := []) ⟨hx, hb, hml, hown, hts⟩ (c_M_many l D (am 4) (cm 3) (X 1) hx1 p1 d (by omega) (by omega)) ⟨callB_of 3 hts (gTB q_M_many) rfl rfl rfl (htb _ q4) (htb _ q736) hd_M_many ⟨Nat.le_of_ble_eq_true rfl, Nat.le_of_ble_eq_true rfl⟩, (htb _ q737)⟩ ⟨ro_blind, ro_pre hN (hP.sub (ws' := [(am 4, .inl ((cm 3), 42, .inl (fun k => nI ((X 1) k))))]) [4] rfl) (hK.sub (tys' := [((cm 3), .int)]) [3] rfl)⟩ rfl rfl hl.1 rfl (lv_room (Nat.le_of_ble_eq_true rfl)) d_M_givesUp_50 ⟨Nat.le_of_ble_eq_true rfl, Nat.le_of_ble_eq_true rfl⟩) (fun r_3 hr_3 => ?_)
      subst hr_3
      refine lv_aload_n hx hb d_M_givesUp_53 rfl (lv_at hl 3 rfl) ?_
      refine va_get (D := D) (ci := 3) (v := .int (nI (P 0 3))) (C := R_M) (T := F_M) (N := 26) hx hb htb u_M hown hK hP 0 rfl rfl 15 (by decide) (htb _ q594) (fun _ h9 => h9) rfl d_M_givesUp_54 ?_
      refine nr_icmp_gt (tgt := 77) hx hb (by omega) (by omega) d_M_givesUp_57 (by decide) (fun c_57 => ?_) (fun c_57 => ?_)
      · refine nr_iconst hx hb 1 d_M_givesUp_77 (by decide) ?_
        exact W.zret (v := (nI 1)) hx hb hr rfl (fun t ht hW => ⟨_, rfl, by rw [gu, decide_eq_true (Or.inr (Or.inl c_57))]; rfl, ht⟩) (fun q h => by cases h) d_M_givesUp_78
      · refine lv_aload_n hx hb d_M_givesUp_60 rfl (lv_at hl 3 rfl) ?_
        refine va_get (D := D) (ci := 3) (v := .ref (am 4)) (C := R_M) (T := F_M) (N := 26) hx hb htb u_M hown hK hP 0 rfl rfl 7 (by decide) (htb _ q586) (fun _ h9 => h9) rfl d_M_givesUp_61 ?_
        refine lv_iload hx hb d_M_givesUp_64 (lv_at hl 1 rfl) ?_
        refine lv_iload_n hx hb d_M_givesUp_66 rfl (lv_at hl 2 rfl) ?_
        refine nr_calli (va_runS (As := [.ref (am 4), .int (nI p1), .int (nI d)]) (rest := []) ⟨hx, hb, hml, hown, hts⟩ (c_M_nightsTo l D (am 4) (cm 3) (X 1) hx1 p1 d (by omega) (by omega)) ⟨callB_of 3 hts (gTB q_M_nightsTo) rfl rfl rfl (htb _ q4) (htb _ q739) hd_M_nightsTo ⟨Nat.le_of_ble_eq_true rfl, Nat.le_of_ble_eq_true rfl⟩, (htb _ q740)⟩ ⟨ro_blind, ro_pre hN (hP.sub (ws' := [(am 4, .inl ((cm 3), 42, .inl (fun k => nI ((X 1) k))))]) [4] rfl) (hK.sub (tys' := [((cm 3), .int)]) [3] rfl)⟩ rfl rfl hl.1 rfl (lv_room (Nat.le_of_ble_eq_true rfl)) d_M_givesUp_67 ⟨Nat.le_of_ble_eq_true rfl, Nat.le_of_ble_eq_true rfl⟩) (fun r_4 hr_4 => ?_)
        subst hr_4
        refine lv_aload_n hx hb d_M_givesUp_70 rfl (lv_at hl 3 rfl) ?_
        refine va_get (D := D) (ci := 3) (v := .int (nI (P 0 4))) (C := R_M) (T := F_M) (N := 26) hx hb htb u_M hown hK hP 0 rfl rfl 16 (by decide) (htb _ q595) (fun _ h9 => h9) rfl d_M_givesUp_71 ?_
        refine nr_icmp_le (tgt := 79) hx hb (by omega) (by omega) d_M_givesUp_74 (by decide) (fun c_74 => ?_) (fun c_74 => ?_)
        · refine lv_iload hx hb d_M_givesUp_79 (lv_at hl 0 rfl) ?_
          refine nr_if_le (tgt := 106) hx hb (by omega) d_M_givesUp_81 (by decide) (fun c_81 => ?_) (fun c_81 => ?_)
          · refine lv_iload hx hb d_M_givesUp_106 (lv_at hl 1 rfl) ?_
            refine lv_aload_n hx hb d_M_givesUp_108 rfl (lv_at hl 3 rfl) ?_
            refine va_get (D := D) (ci := 3) (v := .int (nI (P 0 0))) (C := R_M) (T := F_M) (N := 26) hx hb htb u_M hown hK hP 0 rfl rfl 1 (by decide) (htb _ q580) (fun _ h9 => h9) rfl d_M_givesUp_109 ?_
            refine nr_iconst hx hb 1 d_M_givesUp_112 (by decide) ?_
            refine nr_isub hx hb (by omega) d_M_givesUp_113 ?_
            refine nr_icmp_ne (tgt := 131) hx hb (by omega) (by omega) d_M_givesUp_114 (by decide) (fun c_114 => ?_) (fun c_114 => ?_)
            · refine lv_iload_n hx hb d_M_givesUp_131 rfl (lv_at hl 5 rfl) ?_
              refine lv_if_lt (tgt := 152) hx hb d_M_givesUp_132 (by decide) (fun c_132 => ?_) (fun c_132 => absurd (by decide) c_132)
              refine nr_iconst hx hb 0 d_M_givesUp_152 (by decide) ?_
              exact W.zret (v := (nI 0)) hx hb hr rfl (fun t ht hW => ⟨_, rfl, by rw [gu, decide_eq_false (by rintro (h | h | h | h | h | h); exact b01_z c_40 h; omega; omega; exact h (by rw [c_81]; exact hb0 _); exact c_114 h.1; exact absurd h.1 (by omega))]; rfl, ht⟩) (fun q h => by cases h) d_M_givesUp_153
            · refine lv_aload_n hx hb d_M_givesUp_117 rfl (lv_at hl 3 rfl) ?_
              refine lv_aload_n hx hb d_M_givesUp_118 rfl (lv_at hl 3 rfl) ?_
              refine va_get (D := D) (ci := 3) (v := .ref (am 4)) (C := R_M) (T := F_M) (N := 26) hx hb htb u_M hown hK hP 0 rfl rfl 7 (by decide) (htb _ q586) (fun _ h9 => h9) rfl d_M_givesUp_119 ?_
              refine lv_iload_n hx hb d_M_givesUp_122 rfl (lv_at hl 2 rfl) ?_
              refine nr_calli (va_runV (As := [.ref (am 4), .int (nI d)]) (rest := []) ⟨hx, hb, hml, hown, hts⟩ (c_M_areMet l D am cm P G X (am 4) (cm 3) (X 1) hP0 hG0 hX0 hx1 d (by omega)) ⟨callB_of 2 hts (gTB q_M_areMet) rfl rfl rfl (htb _ q4) (htb _ q713) hd_M_areMet ⟨Nat.le_of_ble_eq_true rfl, Nat.le_of_ble_eq_true rfl⟩, (htb _ q715), (htb _ sel_M_areMet)⟩ ⟨ro_blind, va_recv (hK.sub (tys' := []) [] rfl) hP (ci := 3) (q0 := 0) rfl rfl, ro_pre hN (hP.sub (ws' := (wMS am cm P G X (am 4) (cm 3) (X 1))) [0, 1, 2, 3, 4, 5, 6, 7, 8, 9, 10, 11, 12, 13, 14, 4] rfl) (hK.sub (tys' := (tMS cm (cm 3))) [0, 1, 2, 3, 4, 5, 6, 7, 8, 9, 10, 11, 12, 13, 3] rfl)⟩ rfl rfl hl.1 rfl (lv_room (Nat.le_of_ble_eq_true rfl)) d_M_givesUp_123 ⟨Nat.le_of_ble_eq_true rfl, Nat.le_of_ble_eq_true rfl⟩) (fun r_5 hr_5 => ?_)
              subst hr_5
              refine nr_if_ne (tgt := 131) hx hb pz_lt d_M_givesUp_126 (by decide) (fun c_126 => ?_) (fun c_126 => ?_)
              · refine lv_iload_n hx hb d_M_givesUp_131 rfl (lv_at hl 5 rfl) ?_
                refine lv_if_lt (tgt := 152) hx hb d_M_givesUp_132 (by decide) (fun c_132 => ?_) (fun c_132 => absurd (by decide) c_132)
                refine nr_iconst hx hb 0 d_M_givesUp_152 (by decide) ?_
                exact W.zret (v := (nI 0)) hx hb hr rfl (fun t ht hW => ⟨_, rfl, by rw [gu, decide_eq_false (by rintro (h | h | h | h | h | h); exact b01_z c_40 h; omega; omega; exact h (by rw [c_81]; exact hb0 _); exact h.2 (pz_nz c_126); exact absurd h.1 (by omega))]; rfl, ht⟩) (fun q h => by cases h) d_M_givesUp_153
              · refine nr_iconst hx hb 1 d_M_givesUp_129 (by decide) ?_
                exact W.zret (v := (nI 1)) hx hb hr rfl (fun t ht hW => ⟨_, rfl, by rw [gu, decide_eq_true (Or.inr (Or.inr (Or.inr (Or.inr (Or.inl ⟨c_114, pz_z c_126⟩)))))]; rfl, ht⟩) (fun q h => by cases h) d_M_givesUp_130
          · refine lv_aload_n hx hb d_M_givesUp_84 rfl (lv_at hl 3 rfl) ?_
            refine va_get (D := D) (ci := 3) (v := .ref (am 9)) (C := R_M) (T := F_M) (N := 26) hx hb htb u_M hown hK hP 0 rfl rfl 13 (by decide) (htb _ q592) (fun _ h9 => h9) rfl d_M_givesUp_85 ?_
            refine nr_bipush hx hb 24 d_M_givesUp_88 (by decide) ?_
            refine lv_iload_n hx hb d_M_givesUp_90 rfl (lv_at hl 2 rfl) ?_
            refine nr_imul hx hb d_M_givesUp_91 ?_
            refine nr_top (y := nI (d * 24)) (congrArg nI (Nat.mul_comm _ _)) ?_
            refine nr_iconst hx hb 4 d_M_givesUp_92 (by decide) ?_
            refine lv_iload hx hb d_M_givesUp_93 (lv_at hl 1 rfl) ?_
            refine nr_imul hx hb d_M_givesUp_95 ?_
            refine nr_top (y := nI (p1 * 4)) (congrArg nI (Nat.mul_comm _ _)) ?_
            refine nr_iadd hx hb d_M_givesUp_96 ?_
            refine lv_iload hx hb d_M_givesUp_97 (lv_at hl 0 rfl) ?_
            refine nr_iadd hx hb d_M_givesUp_99 ?_
            refine nr_top (y := nI ((d * 6 + p1) * 4 + X 1 (d * 6 + p1))) (congrArg nI (by omega)) ?_
            refine nr_zald hx hb hK hP 9 8 rfl rfl (by omega) (by decide) d_M_givesUp_100 ?_
            have hv_6 := hp5 ((d * 6 + p1) * 4 + X 1 (d * 6 + p1))
            refine nr_if_eq (tgt := 106) hx hb (by omega) d_M_givesUp_101 (by decide) (fun c_101 => ?_) (fun c_101 => ?_)
            · refine lv_iload hx hb d_M_givesUp_106 (lv_at hl 1 rfl) ?_
              refine lv_aload_n hx hb d_M_givesUp_108 rfl (lv_at hl 3 rfl) ?_
              refine va_get (D := D) (ci := 3) (v := .int (nI (P 0 0))) (C := R_M) (T := F_M) (N := 26) hx hb htb u_M hown hK hP 0 rfl rfl 1 (by decide) (htb _ q580) (fun _ h9 => h9) rfl d_M_givesUp_109 ?_
              refine nr_iconst hx hb 1 d_M_givesUp_112 (by decide) ?_
              refine nr_isub hx hb (by omega) d_M_givesUp_113 ?_
              refine nr_icmp_ne (tgt := 131) hx hb (by omega) (by omega) d_M_givesUp_114 (by decide) (fun c_114 => ?_) (fun c_114 => ?_)
              · refine lv_iload_n hx hb d_M_givesUp_131 rfl (lv_at hl 5 rfl) ?_
                refine lv_if_lt (tgt := 152) hx hb d_M_givesUp_132 (by decide) (fun c_132 => ?_) (fun c_132 => absurd (by decide) c_132)
                refine nr_iconst hx hb 0 d_M_givesUp_152 (by decide) ?_
                exact W.zret (v := (nI 0)) hx hb hr rfl (fun t ht hW => ⟨_, rfl, by rw [gu, decide_eq_false (by rintro (h | h | h | h | h | h); exact b01_z c_40 h; omega; omega; exact h c_101; exact c_114 h.1; exact absurd h.1 (by omega))]; rfl, ht⟩) (fun q h => by cases h) d_M_givesUp_153
              · refine lv_aload_n hx hb d_M_givesUp_117 rfl (lv_at hl 3 rfl) ?_
                refine lv_aload_n hx hb d_M_givesUp_118 rfl (lv_at hl 3 rfl) ?_
                refine va_get (D := D) (ci := 3) (v := .ref (am 4)) (C := R_M) (T := F_M) (N := 26) hx hb htb u_M hown hK hP 0 rfl rfl 7 (by decide) (htb _ q586) (fun _ h9 => h9) rfl d_M_givesUp_119 ?_
                refine lv_iload_n hx hb d_M_givesUp_122 rfl (lv_at hl 2 rfl) ?_
                refine nr_calli (va_runV (As := [.ref (am 4), .int (nI d)]) (rest := []) ⟨hx, hb, hml, hown, hts⟩ (c_M_areMet l D am cm P G X (am 4) (cm 3) (X 1) hP0 hG0 hX0 hx1 d (by omega)) ⟨callB_of 2 hts (gTB q_M_areMet) rfl rfl rfl (htb _ q4) (htb _ q713) hd_M_areMet ⟨Nat.le_of_ble_eq_true rfl, Nat.le_of_ble_eq_true rfl⟩, (htb _ q715), (htb _ sel_M_areMet)⟩ ⟨ro_blind, va_recv (hK.sub (tys' := []) [] rfl) hP (ci := 3) (q0 := 0) rfl rfl, ro_pre hN (hP.sub (ws' := (wMS am cm P G X (am 4) (cm 3) (X 1))) [0, 1, 2, 3, 4, 5, 6, 7, 8, 9, 10, 11, 12, 13, 14, 4] rfl) (hK.sub (tys' := (tMS cm (cm 3))) [0, 1, 2, 3, 4, 5, 6, 7, 8, 9, 10, 11, 12, 13, 3] rfl)⟩ rfl rfl hl.1 rfl (lv_room (Nat.le_of_ble_eq_true rfl)) d_M_givesUp_123 ⟨Nat.le_of_ble_eq_true rfl, Nat.le_of_ble_eq_true rfl⟩) (fun r_7 hr_7 => ?_)
                subst hr_7
                refine nr_if_ne (tgt := 131) hx hb pz_lt d_M_givesUp_126 (by decide) (fun c_126 => ?_) (fun c_126 => ?_)
                · refine lv_iload_n hx hb d_M_givesUp_131 rfl (lv_at hl 5 rfl) ?_
                  refine lv_if_lt (tgt := 152) hx hb d_M_givesUp_132 (by decide) (fun c_132 => ?_) (fun c_132 => absurd (by decide) c_132)
                  refine nr_iconst hx hb 0 d_M_givesUp_152 (by decide) ?_
                  exact W.zret (v := (nI 0)) hx hb hr rfl (fun t ht hW => ⟨_, rfl, by rw [gu, decide_eq_false (by rintro (h | h | h | h | h | h); exact b01_z c_40 h; omega; omega; exact h c_101; exact h.2 (pz_nz c_126); exact absurd h.1 (by omega))]; rfl, ht⟩) (fun q h => by cases h) d_M_givesUp_153
                · refine nr_iconst hx hb 1 d_M_givesUp_129 (by decide) ?_
                  exact W.zret (v := (nI 1)) hx hb hr rfl (fun t ht hW => ⟨_, rfl, by rw [gu, decide_eq_true (Or.inr (Or.inr (Or.inr (Or.inr (Or.inl ⟨c_114, pz_z c_126⟩)))))]; rfl, ht⟩) (fun q h => by cases h) d_M_givesUp_130
            · refine nr_iconst hx hb 1 d_M_givesUp_104 (by decide) ?_
              exact W.zret (v := (nI 1)) hx hb hr rfl (fun t ht hW => ⟨_, rfl, by rw [gu, decide_eq_true (Or.inr (Or.inr (Or.inr (Or.inl c_101))))]; rfl, ht⟩) (fun q h => by cases h) d_M_givesUp_105
        · refine nr_iconst hx hb 1 d_M_givesUp_77 (by decide) ?_
          exact W.zret (v := (nI 1)) hx hb hr rfl (fun t ht hW => ⟨_, rfl, by rw [gu, decide_eq_true (Or.inr (Or.inr (Or.inl c_74)))]; rfl, ht⟩) (fun q h => by cases h) d_M_givesUp_78
  · refine lv_iload_n hx hb d_M_givesUp_0 rfl (lv_at hl 1 rfl) ?_
    refine lv_aload_n hx hb d_M_givesUp_1 rfl (lv_at hl 0 rfl) ?_
    refine va_get (D := D) (ci := 3) (v := .int (nI (P 0 0))) (C := R_M) (T := F_M) (N := 26) hx hb htb u_M hown hK hP 0 rfl rfl 1 (by decide) (htb _ q580) (fun _ h9 => h9) rfl d_M_givesUp_2 ?_
    refine nr_idiv hx hb (by omega) (by omega) (by omega) d_M_givesUp_5 ?_
    refine nr_top (y := nI d) (congrArg nI hdv) ?_
    refine lv_istore_n (lv' := [(3, .int (nI d)), (0, .ref (am 0)), (1, .int (nI pl)), (2, .int (nI le))]) hx hb d_M_givesUp_6 rfl hl (by decide) rfl (fun ls hl => ?_)
    refine lv_iload_n hx hb d_M_givesUp_7 rfl (lv_at hl 2 rfl) ?_
    refine lv_aload_n hx hb d_M_givesUp_8 rfl (lv_at hl 1 rfl) ?_
    refine va_get (D := D) (ci := 3) (v := .int (nI (P 0 0))) (C := R_M) (T := F_M) (N := 26) hx hb htb u_M hown hK hP 0 rfl rfl 1 (by decide) (htb _ q580) (fun _ h9 => h9) rfl d_M_givesUp_9 ?_
    refine nr_irem hx hb (by omega) (by omega) (by omega) d_M_givesUp_12 ?_
    refine nr_top (y := nI p1) (congrArg nI hmd) ?_
    refine lv_istore (lv' := [(4, .int (nI p1)), (3, .int (nI d)), (0, .ref (am 0)), (1, .int (nI pl)), (2, .int (nI le))]) hx hb d_M_givesUp_13 hl (by decide) rfl (fun ls hl => ?_)
    refine lv_aload_n hx hb d_M_givesUp_15 rfl (lv_at hl 2 rfl) ?_
    refine va_get (D := D) (ci := 3) (v := .ref (am 4)) (C := R_M) (T := F_M) (N := 26) hx hb htb u_M hown hK hP 0 rfl rfl 7 (by decide) (htb _ q586) (fun _ h9 => h9) rfl d_M_givesUp_16 ?_
    refine nr_bipush hx hb 6 d_M_givesUp_19 (by decide) ?_
    refine lv_iload_n hx hb d_M_givesUp_21 rfl (lv_at hl 1 rfl) ?_
    refine nr_imul hx hb d_M_givesUp_22 ?_
    refine nr_top (y := nI (d * 6)) (congrArg nI (Nat.mul_comm _ _)) ?_
    refine lv_iload hx hb d_M_givesUp_23 (lv_at hl 0 rfl) ?_
    refine nr_iadd hx hb d_M_givesUp_25 ?_
    refine nr_iald hx hb hK hP 4 3 rfl rfl (by omega) (by decide) d_M_givesUp_26 ?_
    have hv_8 := hx1 ((d * 6) + p1)
    refine lv_istore (lv' := [(5, .int (nI (X 1 ((d * 6) + p1)))), (4, .int (nI p1)), (3, .int (nI d)), (0, .ref (am 0)), (1, .int (nI pl)), (2, .int (nI le))]) hx hb d_M_givesUp_27 hl (by decide) rfl (fun ls hl => ?_)
    refine lv_aload_n hx hb d_M_givesUp_29 rfl (lv_at hl 3 rfl) ?_
    refine lv_aload_n hx hb d_M_givesUp_30 rfl (lv_at hl 3 rfl) ?_
    refine va_get (D := D) (ci := 3) (v := .ref (am 4)) (C := R_M) (T := F_M) (N := 26) hx hb htb u_M hown hK hP 0 rfl rfl 7 (by decide) (htb _ q586) (fun _ h9 => h9) rfl d_M_givesUp_31 ?_
    refine lv_iload hx hb d_M_givesUp_34 (lv_at hl 1 rfl) ?_
    refine lv_iload_n hx hb d_M_givesUp_36 rfl (lv_at hl 2 rfl) ?_
    refine nr_calli (va_runV (As := [.ref (am 4), .int (nI p1), .int (nI d)]) (rest := []) ⟨hx, hb, hml, hown, hts⟩ (c_M_isTired l D am cm P G X (am 4) (cm 3) (X 1) hP0 hG0 hX0 hx1 p1 d (by omega) (by omega)) ⟨callB_of 3 hts (gTB q_M_isTired) rfl rfl rfl (htb _ q4) (htb _ q729) hd_M_isTired ⟨Nat.le_of_ble_eq_true rfl, Nat.le_of_ble_eq_true rfl⟩, (htb _ q731), (htb _ sel_M_isTired)⟩ ⟨ro_blind, va_recv (hK.sub (tys' := []) [] rfl) hP (ci := 3) (q0 := 0) rfl rfl, ro_pre hN (hP.sub (ws' := (wMS am cm P G X (am 4) (cm 3) (X 1))) [0, 1, 2, 3, 4, 5, 6, 7, 8, 9, 10, 11, 12, 13, 14, 4] rfl) (hK.sub (tys' := (tMS cm (cm 3))) [0, 1, 2, 3, 4, 5, 6, 7, 8, 9, 10, 11, 12, 13, 3] rfl)⟩ rfl rfl hl.1 rfl (lv_room (Nat.le_of_ble_eq_true rfl)) d_M_givesUp_37 ⟨Nat.le_of_ble_eq_true rfl, Nat.le_of_ble_eq_true rfl⟩) (fun r_9 hr_9 => ?_)
    subst hr_9
    refine nr_if_ne (tgt := 77) hx hb b01_lt d_M_givesUp_40 (by decide) (fun c_40 => ?_) (fun c_40 => ?_)
    · refine nr_iconst hx hb 1 d_M_givesUp_77 (by decide) ?_
      exact W.zret (v := (nI 1)) hx hb hr rfl (fun t ht hW => ⟨_, rfl, by rw [gu, decide_eq_true (Or.inl (b01_nz c_40))]; rfl, ht⟩) (fun q h => by cases h) d_M_givesUp_78
    · refine lv_aload_n hx hb d_M_givesUp_43 rfl (lv_at hl 3 rfl) ?_
      refine va_get (D := D) (ci := 3) (v := .ref (am 4)) (C := R_M) (T := F_M) (N := 26) hx hb htb u_M hown hK hP 0 rfl rfl 7 (by decide) (htb _ q586) (fun _ h9 => h9) rfl d_M_givesUp_44 ?_
      refine lv_iload hx hb d_M_givesUp_47 (lv_at hl 1 rfl) ?_
      refine lv_iload_n hx hb d_M_givesUp_49 rfl (lv_at hl 2 rfl) ?_
      refine nr_calli (va_runS (As := [.ref (am 4), .int (nI p1), .int (nI d)]) (rest := []) ⟨hx, hb, hml, hown, hts⟩ (c_M_many l D (am 4) (cm 3) (X 1) hx1 p1 d (by omega) (by omega)) ⟨callB_of 3 hts (gTB q_M_many) rfl rfl rfl (htb _ q4) (htb _ q736) hd_M_many ⟨Nat.le_of_ble_eq_true rfl, Nat.le_of_ble_eq_true rfl⟩, (htb _ q737)⟩ ⟨ro_blind, ro_pre hN (hP.sub (ws' := [(am 4, .inl ((cm 3), 42, .inl (fun k => nI ((X 1) k))))]) [4] rfl) (hK.sub (tys' := [((cm 3), .int)]) [3] rfl)⟩ rfl rfl hl.1 rfl (lv_room (Nat.le_of_ble_eq_true rfl)) d_M_givesUp_50 ⟨Nat.le_of_ble_eq_true rfl, Nat.le_of_ble_eq_true rfl⟩) (fun r_10 hr_10 => ?_)
      subst hr_10
      refine lv_aload_n hx hb d_M_givesUp_53 rfl (lv_at hl 3 rfl) ?_
      refine va_get (D := D) (ci := 3) (v := .int (nI (P 0 3))) (C := R_M) (T := F_M) (N := 26) hx hb htb u_M hown hK hP 0 rfl rfl 15 (by decide) (htb _ q594) (fun _ h9 => h9) rfl d_M_givesUp_54 ?_
      refine nr_icmp_gt (tgt := 77) hx hb (by omega) (by omega) d_M_givesUp_57 (by decide) (fun c_57 => ?_) (fun c_57 => ?_)
      · refine nr_iconst hx hb 1 d_M_givesUp_77 (by decide) ?_
        exact W.zret (v := (nI 1)) hx hb hr rfl (fun t ht hW => ⟨_, rfl, by rw [gu, decide_eq_true (Or.inr (Or.inl c_57))]; rfl, ht⟩) (fun q h => by cases h) d_M_givesUp_78
      · refine lv_aload_n hx hb d_M_givesUp_60 rfl (lv_at hl 3 rfl) ?_
        refine va_get (D := D) (ci := 3) (v := .ref (am 4)) (C := R_M) (T := F_M) (N := 26) hx hb htb u_M hown hK hP 0 rfl rfl 7 (by decide) (htb _ q586) (fun _ h9 => h9) rfl d_M_givesUp_61 ?_
        refine lv_iload hx hb d_M_givesUp_64 (lv_at hl 1 rfl) ?_
        refine lv_iload_n hx hb d_M_givesUp_66 rfl (lv_at hl 2 rfl) ?_
        refine nr_calli (va_runS (As := [.ref (am 4), .int (nI p1), .int (nI d)]) (rest := []) ⟨hx, hb, hml, hown, hts⟩ (c_M_nightsTo l D (am 4) (cm 3) (X 1) hx1 p1 d (by omega) (by omega)) ⟨callB_of 3 hts (gTB q_M_nightsTo) rfl rfl rfl (htb _ q4) (htb _ q739) hd_M_nightsTo ⟨Nat.le_of_ble_eq_true rfl, Nat.le_of_ble_eq_true rfl⟩, (htb _ q740)⟩ ⟨ro_blind, ro_pre hN (hP.sub (ws' := [(am 4, .inl ((cm 3), 42, .inl (fun k => nI ((X 1) k))))]) [4] rfl) (hK.sub (tys' := [((cm 3), .int)]) [3] rfl)⟩ rfl rfl hl.1 rfl (lv_room (Nat.le_of_ble_eq_true rfl)) d_M_givesUp_67 ⟨Nat.le_of_ble_eq_true rfl, Nat.le_of_ble_eq_true rfl⟩) (fun r_11 hr_11 => ?_)
        subst hr_11
        refine lv_aload_n hx hb d_M_givesUp_70 rfl (lv_at hl 3 rfl) ?_
        refine va_get (D := D) (ci := 3) (v := .int (nI (P 0 4))) (C := R_M) (T := F_M) (N := 26) hx hb htb u_M hown hK hP 0 rfl rfl 16 (by decide) (htb _ q595) (fun _ h9 => h9) rfl d_M_givesUp_71 ?_
        refine nr_icmp_le (tgt := 79) hx hb (by omega) (by omega) d_M_givesUp_74 (by decide) (fun c_74 => ?_) (fun c_74 => ?_)
        · refine lv_iload hx hb d_M_givesUp_79 (lv_at hl 0 rfl) ?_
          refine nr_if_le (tgt := 106) hx hb (by omega) d_M_givesUp_81 (by decide) (fun c_81 => ?_) (fun c_81 => ?_)
          · refine lv_iload hx hb d_M_givesUp_106 (lv_at hl 1 rfl) ?_
            refine lv_aload_n hx hb d_M_givesUp_108 rfl (lv_at hl 3 rfl) ?_
            refine va_get (D := D) (ci := 3) (v := .int (nI (P 0 0))) (C := R_M) (T := F_M) (N := 26) hx hb htb u_M hown hK hP 0 rfl rfl 1 (by decide) (htb _ q580) (fun _ h9 => h9) rfl d_M_givesUp_109 ?_
            refine nr_iconst hx hb 1 d_M_givesUp_112 (by decide) ?_
            refine nr_isub hx hb (by omega) d_M_givesUp_113 ?_
            refine nr_icmp_ne (tgt := 131) hx hb (by omega) (by omega) d_M_givesUp_114 (by decide) (fun c_114 => ?_) (fun c_114 => ?_)
            · refine lv_iload_n hx hb d_M_givesUp_131 rfl (lv_at hl 5 rfl) ?_
              refine nr_if_lt (tgt := 152) hx hb (by omega) d_M_givesUp_132 (by decide) (fun c_132 => c_132.elim) (fun c_132 => ?_)
              refine lv_aload_n hx hb d_M_givesUp_135 rfl (lv_at hl 3 rfl) ?_
              refine lv_aload_n hx hb d_M_givesUp_136 rfl (lv_at hl 3 rfl) ?_
              refine va_get (D := D) (ci := 3) (v := .ref (am 4)) (C := R_M) (T := F_M) (N := 26) hx hb htb u_M hown hK hP 0 rfl rfl 7 (by decide) (htb _ q586) (fun _ h9 => h9) rfl d_M_givesUp_137 ?_
              refine lv_iload_n hx hb d_M_givesUp_140 rfl (lv_at hl 4 rfl) ?_
              refine nr_calli (va_runV (As := [.ref (am 4), .int (nI pl)]) (rest := []) ⟨hx, hb, hml, hown, hts⟩ (c_M_unmetTo l D am cm P G X (am 4) (cm 3) (X 1) hP0 hG0 hX0 hx1 pl (by omega)) ⟨callB_of 2 hts (gTB q_M_unmetTo) rfl rfl rfl (htb _ q4) (htb _ q742) hd_M_unmetTo ⟨Nat.le_of_ble_eq_true rfl, Nat.le_of_ble_eq_true rfl⟩, (htb _ q744), (htb _ sel_M_unmetTo)⟩ ⟨ro_blind, va_recv (hK.sub (tys' := []) [] rfl) hP (ci := 3) (q0 := 0) rfl rfl, ro_pre hN (hP.sub (ws' := (wMS am cm P G X (am 4) (cm 3) (X 1))) [0, 1, 2, 3, 4, 5, 6, 7, 8, 9, 10, 11, 12, 13, 14, 4] rfl) (hK.sub (tys' := (tMS cm (cm 3))) [0, 1, 2, 3, 4, 5, 6, 7, 8, 9, 10, 11, 12, 13, 3] rfl)⟩ rfl rfl hl.1 rfl (lv_room (Nat.le_of_ble_eq_true rfl)) d_M_givesUp_141 ⟨Nat.le_of_ble_eq_true rfl, Nat.le_of_ble_eq_true rfl⟩) (fun r_12 hr_12 => ?_)
              subst hr_12
              refine nr_top (y := nI (unm P (X 1) d p1)) (congrArg nI hut) ?_
              refine lv_iload_n hx hb d_M_givesUp_144 rfl (lv_at hl 5 rfl) ?_
              refine nr_icmp_lt (tgt := 152) hx hb (by omega) (by omega) d_M_givesUp_145 (by decide) (fun c_145 => ?_) (fun c_145 => ?_)
              · refine nr_iconst hx hb 0 d_M_givesUp_152 (by decide) ?_
                exact W.zret (v := (nI 0)) hx hb hr rfl (fun t ht hW => ⟨_, rfl, by rw [gu, decide_eq_false (by rintro (h | h | h | h | h | h); exact b01_z c_40 h; omega; omega; exact h (by rw [c_81]; exact hb0 _); exact c_114 h.1; exact absurd h.2 (by omega))]; rfl, ht⟩) (fun q h => by cases h) d_M_givesUp_153
              · refine nr_iconst hx hb 1 d_M_givesUp_148 (by decide) ?_
                refine lv_goto (tgt := 153) hx hb d_M_givesUp_149 (by decide) ?_
                exact W.zret (v := (nI 1)) hx hb hr rfl (fun t ht hW => ⟨_, rfl, by rw [gu, decide_eq_true (Or.inr (Or.inr (Or.inr (Or.inr (Or.inr ⟨hrt, by omega⟩)))))]; rfl, ht⟩) (fun q h => by cases h) d_M_givesUp_153
            · refine lv_aload_n hx hb d_M_givesUp_117 rfl (lv_at hl 3 rfl) ?_
              refine lv_aload_n hx hb d_M_givesUp_118 rfl (lv_at hl 3 rfl) ?_
              refine va_get (D := D) (ci := 3) (v := .ref (am 4)) (C := R_M) (T := F_M) (N := 26) hx hb htb u_M hown hK hP 0 rfl rfl 7 (by decide) (htb _ q586) (fun _ h9 => h9) rfl d_M_givesUp_119 ?_
              refine lv_iload_n hx hb d_M_givesUp_122 rfl (lv_at hl 2 rfl) ?_
              refine nr_calli (va_runV (As := [.ref (am 4), .int (nI d)]) (rest := []) ⟨hx, hb, hml, hown, hts⟩ (c_M_areMet l D am cm P G X (am 4) (cm 3) (X 1) hP0 hG0 hX0 hx1 d (by omega)) ⟨callB_of 2 hts (gTB q_M_areMet) rfl rfl rfl (htb _ q4) (htb _ q713) hd_M_areMet ⟨Nat.le_of_ble_eq_true rfl, Nat.le_of_ble_eq_true rfl⟩, (htb _ q715), (htb _ sel_M_areMet)⟩ ⟨ro_blind, va_recv (hK.sub (tys' := []) [] rfl) hP (ci := 3) (q0 := 0) rfl rfl, ro_pre hN (hP.sub (ws' := (wMS am cm P G X (am 4) (cm 3) (X 1))) [0, 1, 2, 3, 4, 5, 6, 7, 8, 9, 10, 11, 12, 13, 14, 4] rfl) (hK.sub (tys' := (tMS cm (cm 3))) [0, 1, 2, 3, 4, 5, 6, 7, 8, 9, 10, 11, 12, 13, 3] rfl)⟩ rfl rfl hl.1 rfl (lv_room (Nat.le_of_ble_eq_true rfl)) d_M_givesUp_123 ⟨Nat.le_of_ble_eq_true rfl, Nat.le_of_ble_eq_true rfl⟩) (fun r_13 hr_13 => ?_)
              subst hr_13
              refine nr_if_ne (tgt := 131) hx hb pz_lt d_M_givesUp_126 (by decide) (fun c_126 => ?_) (fun c_126 => ?_)
              · refine lv_iload_n hx hb d_M_givesUp_131 rfl (lv_at hl 5 rfl) ?_
                refine nr_if_lt (tgt := 152) hx hb (by omega) d_M_givesUp_132 (by decide) (fun c_132 => c_132.elim) (fun c_132 => ?_)
                refine lv_aload_n hx hb d_M_givesUp_135 rfl (lv_at hl 3 rfl) ?_
                refine lv_aload_n hx hb d_M_givesUp_136 rfl (lv_at hl 3 rfl) ?_
                refine va_get (D := D) (ci := 3) (v := .ref (am 4)) (C := R_M) (T := F_M) (N := 26) hx hb htb u_M hown hK hP 0 rfl rfl 7 (by decide) (htb _ q586) (fun _ h9 => h9) rfl d_M_givesUp_137 ?_
                refine lv_iload_n hx hb d_M_givesUp_140 rfl (lv_at hl 4 rfl) ?_
                refine nr_calli (va_runV (As := [.ref (am 4), .int (nI pl)]) (rest := []) ⟨hx, hb, hml, hown, hts⟩ (c_M_unmetTo l D am cm P G X (am 4) (cm 3) (X 1) hP0 hG0 hX0 hx1 pl (by omega)) ⟨callB_of 2 hts (gTB q_M_unmetTo) rfl rfl rfl (htb _ q4) (htb _ q742) hd_M_unmetTo ⟨Nat.le_of_ble_eq_true rfl, Nat.le_of_ble_eq_true rfl⟩, (htb _ q744), (htb _ sel_M_unmetTo)⟩ ⟨ro_blind, va_recv (hK.sub (tys' := []) [] rfl) hP (ci := 3) (q0 := 0) rfl rfl, ro_pre hN (hP.sub (ws' := (wMS am cm P G X (am 4) (cm 3) (X 1))) [0, 1, 2, 3, 4, 5, 6, 7, 8, 9, 10, 11, 12, 13, 14, 4] rfl) (hK.sub (tys' := (tMS cm (cm 3))) [0, 1, 2, 3, 4, 5, 6, 7, 8, 9, 10, 11, 12, 13, 3] rfl)⟩ rfl rfl hl.1 rfl (lv_room (Nat.le_of_ble_eq_true rfl)) d_M_givesUp_141 ⟨Nat.le_of_ble_eq_true rfl, Nat.le_of_ble_eq_true rfl⟩) (fun r_14 hr_14 => ?_)
                subst hr_14
                refine nr_top (y := nI (unm P (X 1) d p1)) (congrArg nI hut) ?_
                refine lv_iload_n hx hb d_M_givesUp_144 rfl (lv_at hl 5 rfl) ?_
                refine nr_icmp_lt (tgt := 152) hx hb (by omega) (by omega) d_M_givesUp_145 (by decide) (fun c_145 => ?_) (fun c_145 => ?_)
                · refine nr_iconst hx hb 0 d_M_givesUp_152 (by decide) ?_
                  exact W.zret (v := (nI 0)) hx hb hr rfl (fun t ht hW => ⟨_, rfl, by rw [gu, decide_eq_false (by rintro (h | h | h | h | h | h); exact b01_z c_40 h; omega; omega; exact h (by rw [c_81]; exact hb0 _); exact h.2 (pz_nz c_126); exact absurd h.2 (by omega))]; rfl, ht⟩) (fun q h => by cases h) d_M_givesUp_153
                · refine nr_iconst hx hb 1 d_M_givesUp_148 (by decide) ?_
                  refine lv_goto (tgt := 153) hx hb d_M_givesUp_149 (by decide) ?_
                  exact W.zret (v := (nI 1)) hx hb hr rfl (fun t ht hW => ⟨_, rfl, by rw [gu, decide_eq_true (Or.inr (Or.inr (Or.inr (Or.inr (Or.inr ⟨hrt, by omega⟩)))))]; rfl, ht⟩) (fun q h => by cases h) d_M_givesUp_153
              · refine nr_iconst hx hb 1 d_M_givesUp_129 (by decide) ?_
                exact W.zret (v := (nI 1)) hx hb hr rfl (fun t ht hW => ⟨_, rfl, by rw [gu, decide_eq_true (Or.inr (Or.inr (Or.inr (Or.inr (Or.inl ⟨c_114, pz_z c_126⟩)))))]; rfl, ht⟩) (fun q h => by cases h) d_M_givesUp_130
          · refine lv_aload_n hx hb d_M_givesUp_84 rfl (lv_at hl 3 rfl) ?_
            refine va_get (D := D) (ci := 3) (v := .ref (am 9)) (C := R_M) (T := F_M) (N := 26) hx hb htb u_M hown hK hP 0 rfl rfl 13 (by decide) (htb _ q592) (fun _ h9 => h9) rfl d_M_givesUp_85 ?_
            refine nr_bipush hx hb 24 d_M_givesUp_88 (by decide) ?_
            refine lv_iload_n hx hb d_M_givesUp_90 rfl (lv_at hl 2 rfl) ?_
            refine nr_imul hx hb d_M_givesUp_91 ?_
            refine nr_top (y := nI (d * 24)) (congrArg nI (Nat.mul_comm _ _)) ?_
            refine nr_iconst hx hb 4 d_M_givesUp_92 (by decide) ?_
            refine lv_iload hx hb d_M_givesUp_93 (lv_at hl 1 rfl) ?_
            refine nr_imul hx hb d_M_givesUp_95 ?_
            refine nr_top (y := nI (p1 * 4)) (congrArg nI (Nat.mul_comm _ _)) ?_
            refine nr_iadd hx hb d_M_givesUp_96 ?_
            refine lv_iload hx hb d_M_givesUp_97 (lv_at hl 0 rfl) ?_
            refine nr_iadd hx hb d_M_givesUp_99 ?_
            refine nr_top (y := nI ((d * 6 + p1) * 4 + X 1 (d * 6 + p1))) (congrArg nI (by omega)) ?_
            refine nr_zald hx hb hK hP 9 8 rfl rfl (by omega) (by decide) d_M_givesUp_100 ?_
            have hv_15 := hp5 ((d * 6 + p1) * 4 + X 1 (d * 6 + p1))
            refine nr_if_eq (tgt := 106) hx hb (by omega) d_M_givesUp_101 (by decide) (fun c_101 => ?_) (fun c_101 => ?_)
            · refine lv_iload hx hb d_M_givesUp_106 (lv_at hl 1 rfl) ?_
              refine lv_aload_n hx hb d_M_givesUp_108 rfl (lv_at hl 3 rfl) ?_
              refine va_get (D := D) (ci := 3) (v := .int (nI (P 0 0))) (C := R_M) (T := F_M) (N := 26) hx hb htb u_M hown hK hP 0 rfl rfl 1 (by decide) (htb _ q580) (fun _ h9 => h9) rfl d_M_givesUp_109 ?_
              refine nr_iconst hx hb 1 d_M_givesUp_112 (by decide) ?_
              refine nr_isub hx hb (by omega) d_M_givesUp_113 ?_
              refine nr_icmp_ne (tgt := 131) hx hb (by omega) (by omega) d_M_givesUp_114 (by decide) (fun c_114 => ?_) (fun c_114 => ?_)
              · refine lv_iload_n hx hb d_M_givesUp_131 rfl (lv_at hl 5 rfl) ?_
                refine nr_if_lt (tgt := 152) hx hb (by omega) d_M_givesUp_132 (by decide) (fun c_132 => c_132.elim) (fun c_132 => ?_)
                refine lv_aload_n hx hb d_M_givesUp_135 rfl (lv_at hl 3 rfl) ?_
                refine lv_aload_n hx hb d_M_givesUp_136 rfl (lv_at hl 3 rfl) ?_
                refine va_get (D := D) (ci := 3) (v := .ref (am 4)) (C := R_M) (T := F_M) (N := 26) hx hb htb u_M hown hK hP 0 rfl rfl 7 (by decide) (htb _ q586) (fun _ h9 => h9) rfl d_M_givesUp_137 ?_
                refine lv_iload_n hx hb d_M_givesUp_140 rfl (lv_at hl 4 rfl) ?_
                refine nr_calli (va_runV (As := [.ref (am 4), .int (nI pl)]) (rest := []) ⟨hx, hb, hml, hown, hts⟩ (c_M_unmetTo l D am cm P G X (am 4) (cm 3) (X 1) hP0 hG0 hX0 hx1 pl (by omega)) ⟨callB_of 2 hts (gTB q_M_unmetTo) rfl rfl rfl (htb _ q4) (htb _ q742) hd_M_unmetTo ⟨Nat.le_of_ble_eq_true rfl, Nat.le_of_ble_eq_true rfl⟩, (htb _ q744), (htb _ sel_M_unmetTo)⟩ ⟨ro_blind, va_recv (hK.sub (tys' := []) [] rfl) hP (ci := 3) (q0 := 0) rfl rfl, ro_pre hN (hP.sub (ws' := (wMS am cm P G X (am 4) (cm 3) (X 1))) [0, 1, 2, 3, 4, 5, 6, 7, 8, 9, 10, 11, 12, 13, 14, 4] rfl) (hK.sub (tys' := (tMS cm (cm 3))) [0, 1, 2, 3, 4, 5, 6, 7, 8, 9, 10, 11, 12, 13, 3] rfl)⟩ rfl rfl hl.1 rfl (lv_room (Nat.le_of_ble_eq_true rfl)) d_M_givesUp_141 ⟨Nat.le_of_ble_eq_true rfl, Nat.le_of_ble_eq_true rfl⟩) (fun r_16 hr_16 => ?_)
                subst hr_16
                refine nr_top (y := nI (unm P (X 1) d p1)) (congrArg nI hut) ?_
                refine lv_iload_n hx hb d_M_givesUp_144 rfl (lv_at hl 5 rfl) ?_
                refine nr_icmp_lt (tgt := 152) hx hb (by omega) (by omega) d_M_givesUp_145 (by decide) (fun c_145 => ?_) (fun c_145 => ?_)
                · refine nr_iconst hx hb 0 d_M_givesUp_152 (by decide) ?_
                  exact W.zret (v := (nI 0)) hx hb hr rfl (fun t ht hW => ⟨_, rfl, by rw [gu, decide_eq_false (by rintro (h | h | h | h | h | h); exact b01_z c_40 h; omega; omega; exact h c_101; exact c_114 h.1; exact absurd h.2 (by omega))]; rfl, ht⟩) (fun q h => by cases h) d_M_givesUp_153
                · refine nr_iconst hx hb 1 d_M_givesUp_148 (by decide) ?_
                  refine lv_goto (tgt := 153) hx hb d_M_givesUp_149 (by decide) ?_
                  exact W.zret (v := (nI 1)) hx hb hr rfl (fun t ht hW => ⟨_, rfl, by rw [gu, decide_eq_true (Or.inr (Or.inr (Or.inr (Or.inr (Or.inr ⟨hrt, by omega⟩)))))]; rfl, ht⟩) (fun q h => by cases h) d_M_givesUp_153
              · refine lv_aload_n hx hb d_M_givesUp_117 rfl (lv_at hl 3 rfl) ?_
                refine lv_aload_n hx hb d_M_givesUp_118 rfl (lv_at hl 3 rfl) ?_
                refine va_get (D := D) (ci := 3) (v := .ref (am 4)) (C := R_M) (T := F_M) (N := 26) hx hb htb u_M hown hK hP 0 rfl rfl 7 (by decide) (htb _ q586) (fun _ h9 => h9) rfl d_M_givesUp_119 ?_
                refine lv_iload_n hx hb d_M_givesUp_122 rfl (lv_at hl 2 rfl) ?_
                refine nr_calli (va_runV (As := [.ref (am 4), .int (nI d)]) (rest := []) ⟨hx, hb, hml, hown, hts⟩ (c_M_areMet l D am cm P G X (am 4) (cm 3) (X 1) hP0 hG0 hX0 hx1 d (by omega)) ⟨callB_of 2 hts (gTB q_M_areMet) rfl rfl rfl (htb _ q4) (htb _ q713) hd_M_areMet ⟨Nat.le_of_ble_eq_true rfl, Nat.le_of_ble_eq_true rfl⟩, (htb _ q715), (htb _ sel_M_areMet)⟩ ⟨ro_blind, va_recv (hK.sub (tys' := []) [] rfl) hP (ci := 3) (q0 := 0) rfl rfl, ro_pre hN (hP.sub (ws' := (wMS am cm P G X (am 4) (cm 3) (X 1))) [0, 1, 2, 3, 4, 5, 6, 7, 8, 9, 10, 11, 12, 13, 14, 4] rfl) (hK.sub (tys' := (tMS cm (cm 3))) [0, 1, 2, 3, 4, 5, 6, 7, 8, 9, 10, 11, 12, 13, 3] rfl)⟩ rfl rfl hl.1 rfl (lv_room (Nat.le_of_ble_eq_true rfl)) d_M_givesUp_123 ⟨Nat.le_of_ble_eq_true rfl, Nat.le_of_ble_eq_true rfl⟩) (fun r_17 hr_17 => ?_)
                subst hr_17
                refine nr_if_ne (tgt := 131) hx hb pz_lt d_M_givesUp_126 (by decide) (fun c_126 => ?_) (fun c_126 => ?_)
                · refine lv_iload_n hx hb d_M_givesUp_131 rfl (lv_at hl 5 rfl) ?_
                  refine nr_if_lt (tgt := 152) hx hb (by omega) d_M_givesUp_132 (by decide) (fun c_132 => c_132.elim) (fun c_132 => ?_)
                  refine lv_aload_n hx hb d_M_givesUp_135 rfl (lv_at hl 3 rfl) ?_
                  refine lv_aload_n hx hb d_M_givesUp_136 rfl (lv_at hl 3 rfl) ?_
                  refine va_get (D := D) (ci := 3) (v := .ref (am 4)) (C := R_M) (T := F_M) (N := 26) hx hb htb u_M hown hK hP 0 rfl rfl 7 (by decide) (htb _ q586) (fun _ h9 => h9) rfl d_M_givesUp_137 ?_
                  refine lv_iload_n hx hb d_M_givesUp_140 rfl (lv_at hl 4 rfl) ?_
                  refine nr_calli (va_runV (As := [.ref (am 4), .int (nI pl)]) (rest := []) ⟨hx, hb, hml, hown, hts⟩ (c_M_unmetTo l D am cm P G X (am 4) (cm 3) (X 1) hP0 hG0 hX0 hx1 pl (by omega)) ⟨callB_of 2 hts (gTB q_M_unmetTo) rfl rfl rfl (htb _ q4) (htb _ q742) hd_M_unmetTo ⟨Nat.le_of_ble_eq_true rfl, Nat.le_of_ble_eq_true rfl⟩, (htb _ q744), (htb _ sel_M_unmetTo)⟩ ⟨ro_blind, va_recv (hK.sub (tys' := []) [] rfl) hP (ci := 3) (q0 := 0) rfl rfl, ro_pre hN (hP.sub (ws' := (wMS am cm P G X (am 4) (cm 3) (X 1))) [0, 1, 2, 3, 4, 5, 6, 7, 8, 9, 10, 11, 12, 13, 14, 4] rfl) (hK.sub (tys' := (tMS cm (cm 3))) [0, 1, 2, 3, 4, 5, 6, 7, 8, 9, 10, 11, 12, 13, 3] rfl)⟩ rfl rfl hl.1 rfl (lv_room (Nat.le_of_ble_eq_true rfl)) d_M_givesUp_141 ⟨Nat.le_of_ble_eq_true rfl, Nat.le_of_ble_eq_true rfl⟩) (fun r_18 hr_18 => ?_)
                  subst hr_18
                  refine nr_top (y := nI (unm P (X 1) d p1)) (congrArg nI hut) ?_
                  refine lv_iload_n hx hb d_M_givesUp_144 rfl (lv_at hl 5 rfl) ?_
                  refine nr_icmp_lt (tgt := 152) hx hb (by omega) (by omega) d_M_givesUp_145 (by decide) (fun c_145 => ?_) (fun c_145 => ?_)
                  · refine nr_iconst hx hb 0 d_M_givesUp_152 (by decide) ?_
                    exact W.zret (v := (nI 0)) hx hb hr rfl (fun t ht hW => ⟨_, rfl, by rw [gu, decide_eq_false (by rintro (h | h | h | h | h | h); exact b01_z c_40 h; omega; omega; exact h c_101; exact h.2 (pz_nz c_126); exact absurd h.2 (by omega))]; rfl, ht⟩) (fun q h => by cases h) d_M_givesUp_153
                  · refine nr_iconst hx hb 1 d_M_givesUp_148 (by decide) ?_
                    refine lv_goto (tgt := 153) hx hb d_M_givesUp_149 (by decide) ?_
                    exact W.zret (v := (nI 1)) hx hb hr rfl (fun t ht hW => ⟨_, rfl, by rw [gu, decide_eq_true (Or.inr (Or.inr (Or.inr (Or.inr (Or.inr ⟨hrt, by omega⟩)))))]; rfl, ht⟩) (fun q h => by cases h) d_M_givesUp_153
                · refine nr_iconst hx hb 1 d_M_givesUp_129 (by decide) ?_
                  exact W.zret (v := (nI 1)) hx hb hr rfl (fun t ht hW => ⟨_, rfl, by rw [gu, decide_eq_true (Or.inr (Or.inr (Or.inr (Or.inr (Or.inl ⟨c_114, pz_z c_126⟩)))))]; rfl, ht⟩) (fun q h => by cases h) d_M_givesUp_130
            · refine nr_iconst hx hb 1 d_M_givesUp_104 (by decide) ?_
              exact W.zret (v := (nI 1)) hx hb hr rfl (fun t ht hW => ⟨_, rfl, by rw [gu, decide_eq_true (Or.inr (Or.inr (Or.inr (Or.inl c_101))))]; rfl, ht⟩) (fun q h => by cases h) d_M_givesUp_105
        · refine nr_iconst hx hb 1 d_M_givesUp_77 (by decide) ?_
          exact W.zret (v := (nI 1)) hx hb hr rfl (fun t ht hW => ⟨_, rfl, by rw [gu, decide_eq_true (Or.inr (Or.inr (Or.inl c_74)))]; rfl, ht⟩) (fun q h => by cases h) d_M_givesUp_78

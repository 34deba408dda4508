/-- two places of the roster change their shifts -/
def swG (G : Nat → Nat → Nat) (a b : Nat) : Nat → Nat → Nat := up2 (up2 G 1 a (G 1 b)) 1 b (G 1 a)
theorem sw_sw {G : Nat → Nat → Nat} {a b : Nat} (h : a ≠ b) : swG (swG G a b) a b = G := by
  funext r k
  simp only [swG, up2]
  by_cases hr : r = 1
  · subst hr
    by_cases h1 : k = b
    · subst h1; simp [h]
    · by_cases h2 : k = a
      · subst h2; simp [h]
      · simp [h1, h2]
  · simp [hr]
theorem okg_sw {G : Nat → Nat → Nat} {a b : Nat} (h : okG G) : okG (swG G a b) := by
  obtain ⟨k00, k01, hg1, hg2⟩ := h
  refine ⟨k00, k01, fun k => ?_, hg2⟩
  show (if k = b then G 1 a else if k = a then G 1 b else G 1 k) ≤ 3
  split
  · exact hg1 a
  · split
    · exact hg1 b
    · exact hg1 k
theorem up_0g (X : Nat → Nat → Nat) (a b : Nat) : up2 (up2 X 0 0 a) 0 0 b = up2 X 0 0 b := by
  funext r k
  simp only [up2]
  split
  · split <;> rfl
  · rfl
theorem wM_0g {D : va_G} {am : Nat → Nat} {cm : Nat → ClassId} {P G X : Nat → Nat → Nat} {a b : Nat} {H : Heap} (h : va_P D cls (wM am cm P G (up2 (up2 X 0 0 a) 0 0 b)) H) : va_P D cls (wM am cm P G (up2 X 0 0 b)) H := by rw [up_0g] at h; exact h
theorem wM_0gD {A : Nat → Prop} {am : Nat → Nat} {cm : Nat → ClassId} {P G X : Nat → Nat → Nat} {a b : Nat} (h : va_D A (wM am cm P G (up2 (up2 X 0 0 a) 0 0 b))) : va_D A (wM am cm P G (up2 X 0 0 b)) := by rw [up_0g] at h; exact h
def svG (G : Nat → Nat → Nat) (F : Nat × Nat × Nat × Nat × (Nat → Nat)) : Nat → Nat → Nat := if 0 < F.2.2.1 then upr G 1 F.2.2.2.2 else G
def solM (X u : Nat → Nat → Nat) (F : Nat × Nat × Nat × Nat × (Nat → Nat)) (r : Int32) : Prop := okX u ∧ u 0 1 = 1 - F.1 ∧ u 0 2 = F.2.1 ∧ u 0 3 = F.2.2.1 ∧ (0 < F.2.2.1 → r = nI F.2.2.2.1 ∧ F.2.2.2.1 ≤ 100000) ∧ (F.2.2.1 = 0 → r = -1) ∧ (∀ k, 3 ≤ k → u k = X k) ∧ u 0 0 = 0
theorem upr_id {G : Nat → Nat → Nat} : upr G 1 (G 1) = G := by
  funext r k
  simp only [upr]
  split
  · rename_i h; rw [h]
  · rfl
set_option maxHeartbeats 4000000 in
set_option maxRecDepth 100000 in
theorem k_M_swap (l : Launch) (D : va_G) (am : Nat → Nat) (cm : Nat → ClassId) (P G X : Nat → Nat → Nat) (hP0 : okP P) (hG0 : okG G) (hX0 : okX X) (hb0 : ∀ c, P 5 (c * 4) = 0) (p1 q1 d : Nat) (hp : p1 < P 0 0) (hq : q1 < P 0 0) (hne : p1 ≠ q1) (hd : d < P 0 1) (hfr : G 0 0 ≤ d) (hok : firstFault P (swG G (d * 6 + p1) (d * 6 + q1) 1) = 0) (sz : Nat) : Met l y_M_swap w_M_swap { frames := 3, cells := 0, slots := 0, locals := 73 } (rw_P [.ref (am 0), .int (nI p1), .int (nI q1), .int (nI d)] D (wM am cm P G X) (tM cm) sz) (rw_Qv (fun u : Unit => True) D (wM am cm P G X) (fun u => wM am cm P (swG G (d * 6 + p1) (d * 6 + q1)) (up2 X 0 0 0)) sz) 0 0 (va_A (wM am cm P G X) sz) := by
  refine Met.ofW (cc := b_M_swap) (maxL := 7) (ret := none) (by decide) rfl ?_
  intro p e s m args below meth c s₁ B hml hv
  obtain ⟨rfl, hsz, hN, hP, hK, hD0⟩ := hv
  have hx := B.exec
  have hb := B.bytes
  have hr := B.returns
  have hts := atoms_spec (ws := w_M_swap) B.pre
  have htb : ∀ w ∈ TBG, w.before [.ref (am 0), .int (nI p1), .int (nI q1), .int (nI d)].toArray s = true := fun w h => hts w (List.mem_cons_of_mem _ h)
  have hown : s.vm.findClass R_M = some m.cls := findClass_of_methodNamed B.named
  have hlocks := B.notSynchronized
  subst hsz
  have hD := hD0.self (sz := s.heap.size)
  unfold rw_Qv
  generalize hAe : va_A (wM am cm P G X) s.heap.size = A at hD ⊢
  have hA : ∀ q : Nat, s.heap.size ≤ q → A q := fun q h => by rw [← hAe]; exact Or.inr h
  have hS : va_S A s.heap s.heap [] := va_S.rf
  have hl := lv_entry ([.ref (am 0), .int (nI p1), .int (nI q1), .int (nI d)]) (n := 7) (Nat.le_of_ble_eq_true rfl)
  rw [lg_entry_eq]
  generalize (lg_sl ([.ref (am 0), .int (nI p1), .int (nI q1), .int (nI d)]) ++ List.replicate (7 - (lg_sl ([.ref (am 0), .int (nI p1), .int (nI q1), .int (nI d)])).length) Slot.unset).toArray = ls at hl ⊢
  have hl : lv_has ls 7 [(0, .ref (am 0)), (1, .int (nI p1)), (2, .int (nI q1)), (3, .int (nI d))] := hl
  refine nr_start hP hS (fun H locs hP hS => ?_)
  obtain ⟨h00, h01, h02, h03, h04, h05, hp1, hp2, hp3, hp4, hp5, hp6⟩ := id hP0
  obtain ⟨k00, k01, hg1, hg2⟩ := id hG0
  obtain ⟨x00, x01, x02, x03, hx1, hx2, hx3, hx4, hx5, hx6, hx7⟩ := id hX0
  refine lv_aload_n hx hb d_M_swap_0 rfl (lv_at hl 0 rfl) ?_
  refine lv_iload_n hx hb d_M_swap_1 rfl (lv_at hl 1 rfl) ?_
  refine nr_calli (va_runV (As := [.int (nI p1)]) (rest := []) ⟨hx, hb, hml, hown, hts⟩ (c_M_isPerson l D am cm P G X (am 3) (cm 2) (G 1) hP0 hG0 hX0 hg1 (nI p1)) ⟨callB_of 1 hts (gTB q_M_isPerson) rfl rfl rfl (htb _ q4) (htb _ q693) hd_M_isPerson ⟨Nat.le_of_ble_eq_true rfl, Nat.le_of_ble_eq_true rfl⟩, (htb _ q695), (htb _ sel_M_isPerson)⟩ ⟨ro_blind, va_recv (hK.sub (tys' := []) [] rfl) hP (ci := 3) (q0 := 0) rfl rfl, ro_pre hN (hP.sub (ws' := (wMS am cm P G X (am 3) (cm 2) (G 1))) [0, 1, 2, 3, 4, 5, 6, 7, 8, 9, 10, 11, 12, 13, 14, 3] rfl) (hK.sub (tys' := (tMS cm (cm 2))) [0, 1, 2, 3, 4, 5, 6, 7, 8, 9, 10, 11, 12, 13, 2] rfl)⟩ rfl rfl hl.1 rfl (lv_room (Nat.le_of_ble_eq_true rfl)) d_M_swap_2 ⟨Nat.le_of_ble_eq_true rfl, Nat.le_of_ble_eq_true rfl⟩) (fun r_1 hr_1 => ?_)
  subst hr_1
  refine nr_top (y := nI 1) (by rw [inR_n hp (by omega)]; rfl) ?_
  refine nr_if_eq (tgt := 29) hx hb (by omega) d_M_swap_5 (by decide) (fun c_5 => by exfalso; omega) (fun c_5 => ?_)
  refine lv_aload_n hx hb d_M_swap_8 rfl (lv_at hl 0 rfl) ?_
  refine lv_iload_n hx hb d_M_swap_9 rfl (lv_at hl 2 rfl) ?_
  refine nr_calli (va_runV (As := [.int (nI q1)]) (rest := []) ⟨hx, hb, hml, hown, hts⟩ (c_M_isPerson l D am cm P G X (am 3) (cm 2) (G 1) hP0 hG0 hX0 hg1 (nI q1)) ⟨callB_of 1 hts (gTB q_M_isPerson) rfl rfl rfl (htb _ q4) (htb _ q693) hd_M_isPerson ⟨Nat.le_of_ble_eq_true rfl, Nat.le_of_ble_eq_true rfl⟩, (htb _ q695), (htb _ sel_M_isPerson)⟩ ⟨ro_blind, va_recv (hK.sub (tys' := []) [] rfl) hP (ci := 3) (q0 := 0) rfl rfl, ro_pre hN (hP.sub (ws' := (wMS am cm P G X (am 3) (cm 2) (G 1))) [0, 1, 2, 3, 4, 5, 6, 7, 8, 9, 10, 11, 12, 13, 14, 3] rfl) (hK.sub (tys' := (tMS cm (cm 2))) [0, 1, 2, 3, 4, 5, 6, 7, 8, 9, 10, 11, 12, 13, 2] rfl)⟩ rfl rfl hl.1 rfl (lv_room (Nat.le_of_ble_eq_true rfl)) d_M_swap_10 ⟨Nat.le_of_ble_eq_true rfl, Nat.le_of_ble_eq_true rfl⟩) (fun r_2 hr_2 => ?_)
  subst hr_2
  refine nr_top (y := nI 1) (by rw [inR_n hq (by omega)]; rfl) ?_
  refine nr_if_eq (tgt := 29) hx hb (by omega) d_M_swap_13 (by decide) (fun c_13 => by exfalso; omega) (fun c_13 => ?_)
  refine lv_iload_n hx hb d_M_swap_16 rfl (lv_at hl 1 rfl) ?_
  refine lv_iload_n hx hb d_M_swap_17 rfl (lv_at hl 2 rfl) ?_
  refine nr_icmp_eq (tgt := 29) hx hb (by omega) (by omega) d_M_swap_18 (by decide) (fun c_18 => by exfalso; omega) (fun c_18 => ?_)
  refine lv_aload_n hx hb d_M_swap_21 rfl (lv_at hl 0 rfl) ?_
  refine lv_iload_n hx hb d_M_swap_22 rfl (lv_at hl 3 rfl) ?_
  refine nr_calli (va_runV (As := [.int (nI d)]) (rest := []) ⟨hx, hb, hml, hown, hts⟩ (c_M_isDay l D am cm P G X (am 3) (cm 2) (G 1) hP0 hG0 hX0 hg1 (nI d)) ⟨callB_of 1 hts (gTB q_M_isDay) rfl rfl rfl (htb _ q4) (htb _ q681) hd_M_isDay ⟨Nat.le_of_ble_eq_true rfl, Nat.le_of_ble_eq_true rfl⟩, (htb _ q683), (htb _ sel_M_isDay)⟩ ⟨ro_blind, va_recv (hK.sub (tys' := []) [] rfl) hP (ci := 3) (q0 := 0) rfl rfl, ro_pre hN (hP.sub (ws' := (wMS am cm P G X (am 3) (cm 2) (G 1))) [0, 1, 2, 3, 4, 5, 6, 7, 8, 9, 10, 11, 12, 13, 14, 3] rfl) (hK.sub (tys' := (tMS cm (cm 2))) [0, 1, 2, 3, 4, 5, 6, 7, 8, 9, 10, 11, 12, 13, 2] rfl)⟩ rfl rfl hl.1 rfl (lv_room (Nat.le_of_ble_eq_true rfl)) d_M_swap_23 ⟨Nat.le_of_ble_eq_true rfl, Nat.le_of_ble_eq_true rfl⟩) (fun r_3 hr_3 => ?_)
  subst hr_3
  refine nr_top (y := nI 1) (by rw [inR_n hd (by omega)]; rfl) ?_
  refine nr_if_ne (tgt := 33) hx hb (by omega) d_M_swap_26 (by decide) (fun c_26 => ?_) (fun c_26 => by exfalso; omega)
  refine nr_iconst hx hb 0 d_M_swap_33 (by decide) ?_
  refine lv_istore (lv' := [(4, .int (nI 0)), (0, .ref (am 0)), (1, .int (nI p1)), (2, .int (nI q1)), (3, .int (nI d))]) hx hb d_M_swap_34 hl (by decide) rfl (fun ls hl => ?_)
  refine lv_iload hx hb d_M_swap_36 (lv_at hl 0 rfl) ?_
  refine nr_if_ne (tgt := 53) hx hb (by omega) d_M_swap_38 (by decide) (fun c_38 => by exfalso; omega) (fun c_38 => ?_)
  refine lv_iload_n hx hb d_M_swap_41 rfl (lv_at hl 4 rfl) ?_
  refine lv_aload_n hx hb d_M_swap_42 rfl (lv_at hl 1 rfl) ?_
  refine va_get (D := D) (ci := 3) (v := .int (nI (G 0 0))) (C := R_M) (T := F_M) (N := 26) hx hb htb u_M hown hK hP 0 rfl rfl 3 (by decide) (htb _ q582) (fun _ h9 => h9) rfl d_M_swap_43 ?_
  refine nr_icmp_ge (tgt := 53) hx hb (by omega) (by omega) d_M_swap_46 (by decide) (fun c_46 => ?_) (fun c_46 => by exfalso; omega)
  refine nr_iconst hx hb 0 d_M_swap_53 (by decide) ?_
  refine lv_istore (lv' := [(5, .int (nI 0)), (4, .int (nI 0)), (0, .ref (am 0)), (1, .int (nI p1)), (2, .int (nI q1)), (3, .int (nI d))]) hx hb d_M_swap_54 hl (by decide) rfl (fun ls hl => ?_)
  refine lv_iload hx hb d_M_swap_56 (lv_at hl 1 rfl) ?_
  refine nr_if_ne (tgt := 185) hx hb (by omega) d_M_swap_58 (by decide) (fun c_58 => by exfalso; omega) (fun c_58 => ?_)
  refine lv_iload hx hb d_M_swap_61 (lv_at hl 0 rfl) ?_
  refine nr_if_ne (tgt := 185) hx hb (by omega) d_M_swap_63 (by decide) (fun c_63 => by exfalso; omega) (fun c_63 => ?_)
  refine lv_aload_n hx hb d_M_swap_66 rfl (lv_at hl 2 rfl) ?_
  refine va_get (D := D) (ci := 3) (v := .ref (am 3)) (C := R_M) (T := F_M) (N := 26) hx hb htb u_M hown hK hP 0 rfl rfl 6 (by decide) (htb _ q585) (fun _ h9 => h9) rfl d_M_swap_67 ?_
  refine nr_bipush hx hb 6 d_M_swap_70 (by decide) ?_
  refine lv_iload_n hx hb d_M_swap_72 rfl (lv_at hl 5 rfl) ?_
  refine nr_imul hx hb d_M_swap_73 ?_
  refine nr_top (y := nI (d * 6)) (congrArg nI (Nat.mul_comm _ _)) ?_
  refine lv_iload_n hx hb d_M_swap_74 rfl (lv_at hl 3 rfl) ?_
  refine nr_iadd hx hb d_M_swap_75 ?_
  refine nr_iald hx hb hK hP 3 2 rfl rfl (by omega) (by decide) d_M_swap_76 ?_
  refine lv_istore (lv' := [(6, .int (nI (G 1 ((d * 6) + p1)))), (5, .int (nI 0)), (4, .int (nI 0)), (0, .ref (am 0)), (1, .int (nI p1)), (2, .int (nI q1)), (3, .int (nI d))]) hx hb d_M_swap_77 hl (by decide) rfl (fun ls hl => ?_)
  refine lv_aload_n hx hb d_M_swap_79 rfl (lv_at hl 3 rfl) ?_
  refine va_get (D := D) (ci := 3) (v := .ref (am 3)) (C := R_M) (T := F_M) (N := 26) hx hb htb u_M hown hK hP 0 rfl rfl 6 (by decide) (htb _ q585) (fun _ h9 => h9) rfl d_M_swap_80 ?_
  refine nr_bipush hx hb 6 d_M_swap_83 (by decide) ?_
  refine lv_iload_n hx hb d_M_swap_85 rfl (lv_at hl 6 rfl) ?_
  refine nr_imul hx hb d_M_swap_86 ?_
  refine nr_top (y := nI (d * 6)) (congrArg nI (Nat.mul_comm _ _)) ?_
  refine lv_iload_n hx hb d_M_swap_87 rfl (lv_at hl 4 rfl) ?_
  refine nr_iadd hx hb d_M_swap_88 ?_
  refine lv_aload_n hx hb d_M_swap_89 rfl (lv_at hl 3 rfl) ?_
  refine va_get (D := D) (ci := 3) (v := .ref (am 3)) (C := R_M) (T := F_M) (N := 26) hx hb htb u_M hown hK hP 0 rfl rfl 6 (by decide) (htb _ q585) (fun _ h9 => h9) rfl d_M_swap_90 ?_
  refine nr_bipush hx hb 6 d_M_swap_93 (by decide) ?_
  refine lv_iload_n hx hb d_M_swap_95 rfl (lv_at hl 6 rfl) ?_
  refine nr_imul hx hb d_M_swap_96 ?_
  refine nr_top (y := nI (d * 6)) (congrArg nI (Nat.mul_comm _ _)) ?_
  refine lv_iload_n hx hb d_M_swap_97 rfl (lv_at hl 5 rfl) ?_
  refine nr_iadd hx hb d_M_swap_98 ?_
  refine nr_iald hx hb hK hP 3 2 rfl rfl (by omega) (by decide) d_M_swap_99 ?_
  refine nr_iast hx hb hK hP hD hS 3 2 rfl rfl (by omega) (by decide) d_M_swap_100 (fun H locs hP hD hS => ?_)
  replace hP : va_P D cls (wM am cm P (up2 G 1 ((d * 6) + p1) (G 1 ((d * 6) + q1))) X) H := hP
  replace hD : va_D A (wM am cm P (up2 G 1 ((d * 6) + p1) (G 1 ((d * 6) + q1))) X) := hD
  refine lv_aload_n hx hb d_M_swap_101 rfl (lv_at hl 3 rfl) ?_
  refine va_get (D := D) (ci := 3) (v := .ref (am 3)) (C := R_M) (T := F_M) (N := 26) hx hb htb u_M hown hK hP 0 rfl rfl 6 (by decide) (htb _ q585) (fun _ h9 => h9) rfl d_M_swap_102 ?_
  refine nr_bipush hx hb 6 d_M_swap_105 (by decide) ?_
  refine lv_iload_n hx hb d_M_swap_107 rfl (lv_at hl 6 rfl) ?_
  refine nr_imul hx hb d_M_swap_108 ?_
  refine nr_top (y := nI (d * 6)) (congrArg nI (Nat.mul_comm _ _)) ?_
  refine lv_iload_n hx hb d_M_swap_109 rfl (lv_at hl 5 rfl) ?_
  refine nr_iadd hx hb d_M_swap_110 ?_
  refine lv_iload hx hb d_M_swap_111 (lv_at hl 0 rfl) ?_
  refine nr_iast hx hb hK hP hD hS 3 2 rfl rfl (by omega) (by decide) d_M_swap_113 (fun H locs hP hD hS => ?_)
  replace hP : va_P D cls (wM am cm P (up2 (up2 G 1 ((d * 6) + p1) (G 1 ((d * 6) + q1))) 1 ((d * 6) + q1) (G 1 ((d * 6) + p1))) X) H := hP
  replace hD : va_D A (wM am cm P (up2 (up2 G 1 ((d * 6) + p1) (G 1 ((d * 6) + q1))) 1 ((d * 6) + q1) (G 1 ((d * 6) + p1))) X) := hD
  have hG1 : okG (swG G (d * 6 + p1) (d * 6 + q1)) := okg_sw hG0
  replace hP : va_P D cls (wM am cm P (swG G (d * 6 + p1) (d * 6 + q1)) X) H := hP
  replace hD : va_D A (wM am cm P (swG G (d * 6 + p1) (d * 6 + q1)) X) := hD
  refine lv_aload_n hx hb d_M_swap_114 rfl (lv_at hl 3 rfl) ?_
  refine lv_aload_n hx hb d_M_swap_115 rfl (lv_at hl 3 rfl) ?_
  refine va_get (D := D) (ci := 3) (v := .ref (am 3)) (C := R_M) (T := F_M) (N := 26) hx hb htb u_M hown hK hP 0 rfl rfl 6 (by decide) (htb _ q585) (fun _ h9 => h9) rfl d_M_swap_116 ?_
  refine nr_calli (va_runV (As := [.ref (am 3)]) (rest := []) ⟨hx, hb, hml, hown, hts⟩ (c_M_wrongWith l D am cm P (swG G (d * 6 + p1) (d * 6 + q1)) X (am 3) (cm 2) ((swG G (d * 6 + p1) (d * 6 + q1)) 1) hP0 hG1 hX0 hG1.2.2.1 hb0) ⟨callB_of 1 hts (gTB q_M_wrongWith) rfl rfl rfl (htb _ q4) (htb _ q754) hd_M_wrongWith ⟨Nat.le_of_ble_eq_true rfl, Nat.le_of_ble_eq_true rfl⟩, (htb _ q756), (htb _ sel_M_wrongWith)⟩ ⟨ro_blind, va_recv (hK.sub (tys' := []) [] rfl) hP (ci := 3) (q0 := 0) rfl rfl, ro_pre hN (hP.sub (ws' := (wMS am cm P (swG G (d * 6 + p1) (d * 6 + q1)) X (am 3) (cm 2) ((swG G (d * 6 + p1) (d * 6 + q1)) 1))) [0, 1, 2, 3, 4, 5, 6, 7, 8, 9, 10, 11, 12, 13, 14, 3] rfl) (hK.sub (tys' := (tMS cm (cm 2))) [0, 1, 2, 3, 4, 5, 6, 7, 8, 9, 10, 11, 12, 13, 2] rfl)⟩ rfl rfl hl.1 rfl (lv_room (Nat.le_of_ble_eq_true rfl)) d_M_swap_119 ⟨Nat.le_of_ble_eq_true rfl, Nat.le_of_ble_eq_true rfl⟩) (fun r_4 hr_4 => ?_)
  subst hr_4
  refine nr_if_le (tgt := 129) hx hb (by omega) d_M_swap_122 (by decide) (fun c_122 => ?_) (fun c_122 => by exfalso; omega)
  refine nr_iconst hx hb 0 d_M_swap_129 (by decide) ?_
  refine lv_istore (lv' := [(5, .int (nI 0)), (6, .int (nI (G 1 ((d * 6) + p1)))), (4, .int (nI 0)), (0, .ref (am 0)), (1, .int (nI p1)), (2, .int (nI q1)), (3, .int (nI d))]) hx hb d_M_swap_130 hl (by decide) rfl (fun ls hl => ?_)
  refine lv_iload hx hb d_M_swap_132 (lv_at hl 0 rfl) ?_
  refine nr_if_eq (tgt := 185) hx hb (by omega) d_M_swap_134 (by decide) (fun c_134 => ?_) (fun c_134 => by exfalso; omega)
  refine lv_aload_n hx hb d_M_swap_185 rfl (lv_at hl 3 rfl) ?_
  refine lv_iload hx hb d_M_swap_186 (lv_at hl 2 rfl) ?_
  refine lv_iload hx hb d_M_swap_188 (lv_at hl 0 rfl) ?_
  refine nr_iconst hx hb 0 d_M_swap_190 (by decide) ?_
  refine nr_iconst hx hb 0 d_M_swap_191 (by decide) ?_
  refine nr_callwi (wr := ([] : va_W)) (va_runV (As := [.int (nI 0), .int (nI 0), .int (nI 0), .int (nI 0)]) (rest := []) ⟨hx, hb, hml, hown, hts⟩ (c_M_throwing l D am cm P (swG G (d * 6 + p1) (d * 6 + q1)) X 0 0 0 0 (by decide) (by decide) (by decide) (by decide) H.size) ⟨callB_of 4 hts (gTB q_M_throwing) rfl rfl rfl (htb _ q4) (htb _ q669) hd_M_throwing ⟨Nat.le_of_ble_eq_true rfl, Nat.le_of_ble_eq_true rfl⟩, (htb _ q671), (htb _ sel_M_throwing)⟩ ⟨rw_blind, va_recv (hK.sub (tys' := []) [] rfl) hP (ci := 3) (q0 := 0) rfl rfl, rw_pre hN (hP.sub (ws' := (wM am cm P (swG G (d * 6 + p1) (d * 6 + q1)) X)) [0, 1, 2, 3, 4, 5, 6, 7, 8, 9, 10, 11, 12, 13, 14] rfl) (hK.sub (tys' := (tM cm)) [0, 1, 2, 3, 4, 5, 6, 7, 8, 9, 10, 11, 12, 13] rfl) (hD.sub (ws' := (wM am cm P (swG G (d * 6 + p1) (d * 6 + q1)) X)) [0, 1, 2, 3, 4, 5, 6, 7, 8, 9, 10, 11, 12, 13, 14] (by decide) rfl)⟩ rfl rfl hl.1 rfl (lv_room (Nat.le_of_ble_eq_true rfl)) d_M_swap_192 ⟨Nat.le_of_ble_eq_true rfl, Nat.le_of_ble_eq_true rfl⟩) hP hD hS hA [0, 1, 2, 3, 4, 5, 6, 7, 8, 9, 10, 11, 12, 13, 14] [] rfl rfl (by decide) (by decide) (fun r_5 u_5 H locs hr_5 hP hD hS => ?_)
  subst hr_5
  replace hP := hP.sub (ws' := wM am cm P (swG G (d * 6 + p1) (d * 6 + q1)) (up2 X 0 0 0)) [0, 1, 2, 3, 4, 5, 6, 7, 8, 9, 10, 11, 12, 13, 14] rfl
  replace hD := hD.sub (ws' := wM am cm P (swG G (d * 6 + p1) (d * 6 + q1)) (up2 X 0 0 0)) [0, 1, 2, 3, 4, 5, 6, 7, 8, 9, 10, 11, 12, 13, 14] (by decide) rfl
  refine nr_top (y := nI 0) rfl ?_
  refine lv_pop hx hb d_M_swap_195 rfl ?_
  exact W.vret hx hb hr (fun t ht hW => ⟨⟨(), rfl, trivial, by rw [ht]; exact hP, hD⟩, hS.F ht⟩) hS.2.2 d_M_swap_196
set_option maxHeartbeats 4000000 in
set_option maxRecDepth 100000 in
theorem j_M_swap_2b (l : Launch) (D : va_G) (am : Nat → Nat) (cm : Nat → ClassId) (P G X : Nat → Nat → Nat) (hP0 : okP P) (hG0 : okG G) (hX0 : okX X) (hb0 : ∀ c, P 5 (c * 4) = 0) (p1 q1 d : Nat) (hp : p1 < P 0 0) (hq : q1 < P 0 0) (hne : p1 ≠ q1) (hd : d < P 0 1) (hfr : G 0 0 ≤ d) (hff : firstFault P (swG G (d * 6 + p1) (d * 6 + q1) 1) ≠ 0) (hfl : firstFault P (swG G (d * 6 + p1) (d * 6 + q1) 1) < 1000) (sz : Nat) : Met l y_M_swap w_M_swap { frames := 3, cells := 0, slots := 0, locals := 73 } (rw_P [.ref (am 0), .int (nI p1), .int (nI q1), .int (nI d)] D (wM am cm P G X) (tM cm) sz) (rw_Qv (fun u : Unit => True) D (wM am cm P G X) (fun u => wM am cm P G (up2 X 0 0 2)) sz) 0 0 (va_A (wM am cm P G X) sz) := by
  refine Met.ofW (cc := b_M_swap) (maxL := 7) (ret := none) (by decide) rfl ?_
  intro p e s m args below meth c s₁ B hml hv
  obtain ⟨rfl, hsz, hN, hP, hK, hD0⟩ := hv
  have hx := B.exec
  have hb := B.bytes
  have hr := B.returns
  have hts := atoms_spec (ws := w_M_swap) B.pre
  have htb : ∀ w ∈ TBG, w.before [.ref (am 0), .int (nI p1), .int (nI q1), .int (nI d)].toArray s = true := fun w h => hts w (List.mem_cons_of_mem _ h)
  have hown : s.vm.findClass R_M = some m.cls := findClass_of_methodNamed B.named
  have hlocks := B.notSynchronized
  subst hsz
  have hD := hD0.self (sz := s.heap.size)
  unfold rw_Qv
  generalize hAe : va_A (wM am cm P G X) s.heap.size = A at hD ⊢
  have hA : ∀ q : Nat, s.heap.size ≤ q → A q := fun q h => by rw [← hAe]; exact Or.inr h
  have hS : va_S A s.heap s.heap [] := va_S.rf
  have hl := lv_entry ([.ref (am 0), .int (nI p1), .int (nI q1), .int (nI d)]) (n := 7) (Nat.le_of_ble_eq_true rfl)
  rw [lg_entry_eq]
  generalize (lg_sl ([.ref (am 0), .int (nI p1), .int (nI q1), .int (nI d)]) ++ List.replicate (7 - (lg_sl ([.ref (am 0), .int (nI p1), .int (nI q1), .int (nI d)])).length) Slot.unset).toArray = ls at hl ⊢
  have hl : lv_has ls 7 [(0, .ref (am 0)), (1, .int (nI p1)), (2, .int (nI q1)), (3, .int (nI d))] := hl
  refine nr_start hP hS (fun H locs hP hS => ?_)
  obtain ⟨h00, h01, h02, h03, h04, h05, hp1, hp2, hp3, hp4, hp5, hp6⟩ := id hP0
  obtain ⟨k00, k01, hg1, hg2⟩ := id hG0
  obtain ⟨x00, x01, x02, x03, hx1, hx2, hx3, hx4, hx5, hx6, hx7⟩ := id hX0
  refine lv_aload_n hx hb d_M_swap_0 rfl (lv_at hl 0 rfl) ?_
  refine lv_iload_n hx hb d_M_swap_1 rfl (lv_at hl 1 rfl) ?_
  refine nr_calli (va_runV (As := [.int (nI p1)]) (rest := []) ⟨hx, hb, hml, hown, hts⟩ (c_M_isPerson l D am cm P G X (am 3) (cm 2) (G 1) hP0 hG0 hX0 hg1 (nI p1)) ⟨callB_of 1 hts (gTB q_M_isPerson) rfl rfl rfl (htb _ q4) (htb _ q693) hd_M_isPerson ⟨Nat.le_of_ble_eq_true rfl, Nat.le_of_ble_eq_true rfl⟩, (htb _ q695), (htb _ sel_M_isPerson)⟩ ⟨ro_blind, va_recv (hK.sub (tys' := []) [] rfl) hP (ci := 3) (q0 := 0) rfl rfl, ro_pre hN (hP.sub (ws' := (wMS am cm P G X (am 3) (cm 2) (G 1))) [0, 1, 2, 3, 4, 5, 6, 7, 8, 9, 10, 11, 12, 13, 14, 3] rfl) (hK.sub (tys' := (tMS cm (cm 2))) [0, 1, 2, 3, 4, 5, 6, 7, 8, 9, 10, 11, 12, 13, 2] rfl)⟩ rfl rfl hl.1 rfl (lv_room (Nat.le_of_ble_eq_true rfl)) d_M_swap_2 ⟨Nat.le_of_ble_eq_true rfl, Nat.le_of_ble_eq_true rfl⟩) (fun r_1 hr_1 => ?_)
  subst hr_1
  refine nr_top (y := nI 1) (by rw [inR_n hp (by omega)]; rfl) ?_
  refine nr_if_eq (tgt := 29) hx hb (by omega) d_M_swap_5 (by decide) (fun c_5 => by exfalso; omega) (fun c_5 => ?_)
  refine lv_aload_n hx hb d_M_swap_8 rfl (lv_at hl 0 rfl) ?_
  refine lv_iload_n hx hb d_M_swap_9 rfl (lv_at hl 2 rfl) ?_
  refine nr_calli (va_runV (As := [.int (nI q1)]) (rest := []) ⟨hx, hb, hml, hown, hts⟩ (c_M_isPerson l D am cm P G X (am 3) (cm 2) (G 1) hP0 hG0 hX0 hg1 (nI q1)) ⟨callB_of 1 hts (gTB q_M_isPerson) rfl rfl rfl (htb _ q4) (htb _ q693) hd_M_isPerson ⟨Nat.le_of_ble_eq_true rfl, Nat.le_of_ble_eq_true rfl⟩, (htb _ q695), (htb _ sel_M_isPerson)⟩ ⟨ro_blind, va_recv (hK.sub (tys' := []) [] rfl) hP (ci := 3) (q0 := 0) rfl rfl, ro_pre hN (hP.sub (ws' := (wMS am cm P G X (am 3) (cm 2) (G 1))) [0, 1, 2, 3, 4, 5, 6, 7, 8, 9, 10, 11, 12, 13, 14, 3] rfl) (hK.sub (tys' := (tMS cm (cm 2))) [0, 1, 2, 3, 4, 5, 6, 7, 8, 9, 10, 11, 12, 13, 2] rfl)⟩ rfl rfl hl.1 rfl (lv_room (Nat.le_of_ble_eq_true rfl)) d_M_swap_10 ⟨Nat.le_of_ble_eq_true rfl, Nat.le_of_ble_eq_true rfl⟩) (fun r_2 hr_2 => ?_)
  subst hr_2
  refine nr_top (y := nI 1) (by rw [inR_n hq (by omega)]; rfl) ?_
  refine nr_if_eq (tgt := 29) hx hb (by omega) d_M_swap_13 (by decide) (fun c_13 => by exfalso; omega) (fun c_13 => ?_)
  refine lv_iload_n hx hb d_M_swap_16 rfl (lv_at hl 1 rfl) ?_
  refine lv_iload_n hx hb d_M_swap_17 rfl (lv_at hl 2 rfl) ?_
  refine nr_icmp_eq (tgt := 29) hx hb (by omega) (by omega) d_M_swap_18 (by decide) (fun c_18 => by exfalso; omega) (fun c_18 => ?_)
  refine lv_aload_n hx hb d_M_swap_21 rfl (lv_at hl 0 rfl) ?_
  refine lv_iload_n hx hb d_M_swap_22 rfl (lv_at hl 3 rfl) ?_
  refine nr_calli (va_runV (As := [.int (nI d)]) (rest := []) ⟨hx, hb, hml, hown, hts⟩ (c_M_isDay l D am cm P G X (am 3) (cm 2) (G 1) hP0 hG0 hX0 hg1 (nI d)) ⟨callB_of 1 hts (gTB q_M_isDay) rfl rfl rfl (htb _ q4) (htb _ q681) hd_M_isDay ⟨Nat.le_of_ble_eq_true rfl, Nat.le_of_ble_eq_true rfl⟩, (htb _ q683), (htb _ sel_M_isDay)⟩ ⟨ro_blind, va_recv (hK.sub (tys' := []) [] rfl) hP (ci := 3) (q0 := 0) rfl rfl, ro_pre hN (hP.sub (ws' := (wMS am cm P G X (am 3) (cm 2) (G 1))) [0, 1, 2, 3, 4, 5, 6, 7, 8, 9, 10, 11, 12, 13, 14, 3] rfl) (hK.sub (tys' := (tMS cm (cm 2))) [0, 1, 2, 3, 4, 5, 6, 7, 8, 9, 10, 11, 12, 13, 2] rfl)⟩ rfl rfl hl.1 rfl (lv_room (Nat.le_of_ble_eq_true rfl)) d_M_swap_23 ⟨Nat.le_of_ble_eq_true rfl, Nat.le_of_ble_eq_true rfl⟩) (fun r_3 hr_3 => ?_)
  subst hr_3
  refine nr_top (y := nI 1) (by rw [inR_n hd (by omega)]; rfl) ?_
  refine nr_if_ne (tgt := 33) hx hb (by omega) d_M_swap_26 (by decide) (fun c_26 => ?_) (fun c_26 => by exfalso; omega)
  refine nr_iconst hx hb 0 d_M_swap_33 (by decide) ?_
  refine lv_istore (lv' := [(4, .int (nI 0)), (0, .ref (am 0)), (1, .int (nI p1)), (2, .int (nI q1)), (3, .int (nI d))]) hx hb d_M_swap_34 hl (by decide) rfl (fun ls hl => ?_)
  refine lv_iload hx hb d_M_swap_36 (lv_at hl 0 rfl) ?_
  refine nr_if_ne (tgt := 53) hx hb (by omega) d_M_swap_38 (by decide) (fun c_38 => by exfalso; omega) (fun c_38 => ?_)
  refine lv_iload_n hx hb d_M_swap_41 rfl (lv_at hl 4 rfl) ?_
  refine lv_aload_n hx hb d_M_swap_42 rfl (lv_at hl 1 rfl) ?_
  refine va_get (D := D) (ci := 3) (v := .int (nI (G 0 0))) (C := R_M) (T := F_M) (N := 26) hx hb htb u_M hown hK hP 0 rfl rfl 3 (by decide) (htb _ q582) (fun _ h9 => h9) rfl d_M_swap_43 ?_
  refine nr_icmp_ge (tgt := 53) hx hb (by omega) (by omega) d_M_swap_46 (by decide) (fun c_46 => ?_) (fun c_46 => by exfalso; omega)
  refine nr_iconst hx hb 0 d_M_swap_53 (by decide) ?_
  refine lv_istore (lv' := [(5, .int (nI 0)), (4, .int (nI 0)), (0, .ref (am 0)), (1, .int (nI p1)), (2, .int (nI q1)), (3, .int (nI d))]) hx hb d_M_swap_54 hl (by decide) rfl (fun ls hl => ?_)
  refine lv_iload hx hb d_M_swap_56 (lv_at hl 1 rfl) ?_
  refine nr_if_ne (tgt := 185) hx hb (by omega) d_M_swap_58 (by decide) (fun c_58 => by exfalso; omega) (fun c_58 => ?_)
  refine lv_iload hx hb d_M_swap_61 (lv_at hl 0 rfl) ?_
  refine nr_if_ne (tgt := 185) hx hb (by omega) d_M_swap_63 (by decide) (fun c_63 => by exfalso; omega) (fun c_63 => ?_)
  refine lv_aload_n hx hb d_M_swap_66 rfl (lv_at hl 2 rfl) ?_
  refine va_get (D := D) (ci := 3) (v := .ref (am 3)) (C := R_M) (T := F_M) (N := 26) hx hb htb u_M hown hK hP 0 rfl rfl 6 (by decide) (htb _ q585) (fun _ h9 => h9) rfl d_M_swap_67 ?_
  refine nr_bipush hx hb 6 d_M_swap_70 (by decide) ?_
  refine lv_iload_n hx hb d_M_swap_72 rfl (lv_at hl 5 rfl) ?_
  refine nr_imul hx hb d_M_swap_73 ?_
  refine nr_top (y := nI (d * 6)) (congrArg nI (Nat.mul_comm _ _)) ?_
  refine lv_iload_n hx hb d_M_swap_74 rfl (lv_at hl 3 rfl) ?_
  refine nr_iadd hx hb d_M_swap_75 ?_
  refine nr_iald hx hb hK hP 3 2 rfl rfl (by omega) (by decide) d_M_swap_76 ?_
  refine lv_istore (lv' := [(6, .int (nI (G 1 ((d * 6) + p1)))), (5, .int (nI 0)), (4, .int (nI 0)), (0, .ref (am 0)), (1, .int (nI p1)), (2, .int (nI q1)), (3, .int (nI d))]) hx hb d_M_swap_77 hl (by decide) rfl (fun ls hl => ?_)
  refine lv_aload_n hx hb d_M_swap_79 rfl (lv_at hl 3 rfl) ?_
  refine va_get (D := D) (ci := 3) (v := .ref (am 3)) (C := R_M) (T := F_M) (N := 26) hx hb htb u_M hown hK hP 0 rfl rfl 6 (by decide) (htb _ q585) (fun _ h9 => h9) rfl d_M_swap_80 ?_
  refine nr_bipush hx hb 6 d_M_swap_83 (by decide) ?_
  refine lv_iload_n hx hb d_M_swap_85 rfl (lv_at hl 6 rfl) ?_
  refine nr_imul hx hb d_M_swap_86 ?_
  refine nr_top (y := nI (d * 6)) (congrArg nI (Nat.mul_comm _ _)) ?_
  refine lv_iload_n hx hb d_M_swap_87 rfl (lv_at hl 4 rfl) ?_
  refine nr_iadd hx hb d_M_swap_88 ?_
  refine lv_aload_n hx hb d_M_swap_89 rfl (lv_at hl 3 rfl) ?_
  refine va_get (D := D) (ci := 3) (v := .ref (am 3)) (C := R_M) (T := F_M) (N := 26) hx hb htb u_M hown hK hP 0 rfl rfl 6 (by decide) (htb _ q585) (fun _ h9 => h9) rfl d_M_swap_90 ?_
  refine nr_bipush hx hb 6 d_M_swap_93 (by decide) ?_
  refine lv_iload_n hx hb d_M_swap_95 rfl (lv_at hl 6 rfl) ?_
  refine nr_imul hx hb d_M_swap_96 ?_
  refine nr_top (y := nI (d * 6)) (congrArg nI (Nat.mul_comm _ _)) ?_
  refine lv_iload_n hx hb d_M_swap_97 rfl (lv_at hl 5 rfl) ?_
  refine nr_iadd hx hb d_M_swap_98 ?_
  refine nr_iald hx hb hK hP 3 2 rfl rfl (by omega) (by decide) d_M_swap_99 ?_
  refine nr_iast hx hb hK hP hD hS 3 2 rfl rfl (by omega) (by decide) d_M_swap_100 (fun H locs hP hD hS => ?_)
  replace hP : va_P D cls (wM am cm P (up2 G 1 ((d * 6) + p1) (G 1 ((d * 6) + q1))) X) H := hP
  replace hD : va_D A (wM am cm P (up2 G 1 ((d * 6) + p1) (G 1 ((d * 6) + q1))) X) := hD
  refine lv_aload_n hx hb d_M_swap_101 rfl (lv_at hl 3 rfl) ?_
  refine va_get (D := D) (ci := 3) (v := .ref (am 3)) (C := R_M) (T := F_M) (N := 26) hx hb htb u_M hown hK hP 0 rfl rfl 6 (by decide) (htb _ q585) (fun _ h9 => h9) rfl d_M_swap_102 ?_
  refine nr_bipush hx hb 6 d_M_swap_105 (by decide) ?_
  refine lv_iload_n hx hb d_M_swap_107 rfl (lv_at hl 6 rfl) ?_
  refine nr_imul hx hb d_M_swap_108 ?_
  refine nr_top (y := nI (d * 6)) (congrArg nI (Nat.mul_comm _ _)) ?_
  refine lv_iload_n hx hb d_M_swap_109 rfl (lv_at hl 5 rfl) ?_
  refine nr_iadd hx hb d_M_swap_110 ?_
  refine lv_iload hx hb d_M_swap_111 (lv_at hl 0 rfl) ?_
  refine nr_iast hx hb hK hP hD hS 3 2 rfl rfl (by omega) (by decide) d_M_swap_113 (fun H locs hP hD hS => ?_)
  replace hP : va_P D cls (wM am cm P (up2 (up2 G 1 ((d * 6) + p1) (G 1 ((d * 6) + q1))) 1 ((d * 6) + q1) (G 1 ((d * 6) + p1))) X) H := hP
  replace hD : va_D A (wM am cm P (up2 (up2 G 1 ((d * 6) + p1) (G 1 ((d * 6) + q1))) 1 ((d * 6) + q1) (G 1 ((d * 6) + p1))) X) := hD
  have hG1 : okG (swG G (d * 6 + p1) (d * 6 + q1)) := okg_sw hG0
  replace hP : va_P D cls (wM am cm P (swG G (d * 6 + p1) (d * 6 + q1)) X) H := hP
  replace hD : va_D A (wM am cm P (swG G (d * 6 + p1) (d * 6 + q1)) X) := hD
  refine lv_aload_n hx hb d_M_swap_114 rfl (lv_at hl 3 rfl) ?_
  refine lv_aload_n hx hb d_M_swap_115 rfl (lv_at hl 3 rfl) ?_
  refine va_get (D := D) (ci := 3) (v := .ref (am 3)) (C := R_M) (T := F_M) (N := 26) hx hb htb u_M hown hK hP 0 rfl rfl 6 (by decide) (htb _ q585) (fun _ h9 => h9) rfl d_M_swap_116 ?_
  refine nr_calli (va_runV (As := [.ref (am 3)]) (rest := []) ⟨hx, hb, hml, hown, hts⟩ (c_M_wrongWith l D am cm P (swG G (d * 6 + p1) (d * 6 + q1)) X (am 3) (cm 2) ((swG G (d * 6 + p1) (d * 6 + q1)) 1) hP0 hG1 hX0 hG1.2.2.1 hb0) ⟨callB_of 1 hts (gTB q_M_wrongWith) rfl rfl rfl (htb _ q4) (htb _ q754) hd_M_wrongWith ⟨Nat.le_of_ble_eq_true rfl, Nat.le_of_ble_eq_true rfl⟩, (htb _ q756), (htb _ sel_M_wrongWith)⟩ ⟨ro_blind, va_recv (hK.sub (tys' := []) [] rfl) hP (ci := 3) (q0 := 0) rfl rfl, ro_pre hN (hP.sub (ws' := (wMS am cm P (swG G (d * 6 + p1) (d * 6 + q1)) X (am 3) (cm 2) ((swG G (d * 6 + p1) (d * 6 + q1)) 1))) [0, 1, 2, 3, 4, 5, 6, 7, 8, 9, 10, 11, 12, 13, 14, 3] rfl) (hK.sub (tys' := (tMS cm (cm 2))) [0, 1, 2, 3, 4, 5, 6, 7, 8, 9, 10, 11, 12, 13, 2] rfl)⟩ rfl rfl hl.1 rfl (lv_room (Nat.le_of_ble_eq_true rfl)) d_M_swap_119 ⟨Nat.le_of_ble_eq_true rfl, Nat.le_of_ble_eq_true rfl⟩) (fun r_4 hr_4 => ?_)
  subst hr_4
  refine nr_if_le (tgt := 129) hx hb (by omega) d_M_swap_122 (by decide) (fun c_122 => by exfalso; omega) (fun c_122 => ?_)
  refine nr_iconst hx hb 1 d_M_swap_125 (by decide) ?_
  refine lv_goto (tgt := 130) hx hb d_M_swap_126 (by decide) ?_
  refine lv_istore (lv' := [(5, .int (nI 1)), (6, .int (nI (G 1 ((d * 6) + p1)))), (4, .int (nI 0)), (0, .ref (am 0)), (1, .int (nI p1)), (2, .int (nI q1)), (3, .int (nI d))]) hx hb d_M_swap_130 hl (by decide) rfl (fun ls hl => ?_)
  refine lv_iload hx hb d_M_swap_132 (lv_at hl 0 rfl) ?_
  refine nr_if_eq (tgt := 185) hx hb (by omega) d_M_swap_134 (by decide) (fun c_134 => by exfalso; omega) (fun c_134 => ?_)
  refine lv_aload_n hx hb d_M_swap_137 rfl (lv_at hl 3 rfl) ?_
  refine va_get (D := D) (ci := 3) (v := .ref (am 3)) (C := R_M) (T := F_M) (N := 26) hx hb htb u_M hown hK hP 0 rfl rfl 6 (by decide) (htb _ q585) (fun _ h9 => h9) rfl d_M_swap_138 ?_
  refine nr_bipush hx hb 6 d_M_swap_141 (by decide) ?_
  refine lv_iload_n hx hb d_M_swap_143 rfl (lv_at hl 6 rfl) ?_
  refine nr_imul hx hb d_M_swap_144 ?_
  refine nr_top (y := nI (d * 6)) (congrArg nI (Nat.mul_comm _ _)) ?_
  refine lv_iload_n hx hb d_M_swap_145 rfl (lv_at hl 4 rfl) ?_
  refine nr_iadd hx hb d_M_swap_146 ?_
  refine nr_iald hx hb hK hP 3 2 rfl rfl (by omega) (by decide) d_M_swap_147 ?_
  refine lv_istore (lv' := [(6, .int (nI ((swG G (d * 6 + p1) (d * 6 + q1)) 1 ((d * 6) + p1)))), (5, .int (nI 1)), (4, .int (nI 0)), (0, .ref (am 0)), (1, .int (nI p1)), (2, .int (nI q1)), (3, .int (nI d))]) hx hb d_M_swap_148 hl (by decide) rfl (fun ls hl => ?_)
  refine lv_aload_n hx hb d_M_swap_150 rfl (lv_at hl 3 rfl) ?_
  refine va_get (D := D) (ci := 3) (v := .ref (am 3)) (C := R_M) (T := F_M) (N := 26) hx hb htb u_M hown hK hP 0 rfl rfl 6 (by decide) (htb _ q585) (fun _ h9 => h9) rfl d_M_swap_151 ?_
  refine nr_bipush hx hb 6 d_M_swap_154 (by decide) ?_
  refine lv_iload_n hx hb d_M_swap_156 rfl (lv_at hl 6 rfl) ?_
  refine nr_imul hx hb d_M_swap_157 ?_
  refine nr_top (y := nI (d * 6)) (congrArg nI (Nat.mul_comm _ _)) ?_
  refine lv_iload_n hx hb d_M_swap_158 rfl (lv_at hl 4 rfl) ?_
  refine nr_iadd hx hb d_M_swap_159 ?_
  refine lv_aload_n hx hb d_M_swap_160 rfl (lv_at hl 3 rfl) ?_
  refine va_get (D := D) (ci := 3) (v := .ref (am 3)) (C := R_M) (T := F_M) (N := 26) hx hb htb u_M hown hK hP 0 rfl rfl 6 (by decide) (htb _ q585) (fun _ h9 => h9) rfl d_M_swap_161 ?_
  refine nr_bipush hx hb 6 d_M_swap_164 (by decide) ?_
  refine lv_iload_n hx hb d_M_swap_166 rfl (lv_at hl 6 rfl) ?_
  refine nr_imul hx hb d_M_swap_167 ?_
  refine nr_top (y := nI (d * 6)) (congrArg nI (Nat.mul_comm _ _)) ?_
  refine lv_iload_n hx hb d_M_swap_168 rfl (lv_at hl 5 rfl) ?_
  refine nr_iadd hx hb d_M_swap_169 ?_
  refine nr_iald hx hb hK hP 3 2 rfl rfl (by omega) (by decide) d_M_swap_170 ?_
  refine nr_iast hx hb hK hP hD hS 3 2 rfl rfl (by omega) (by decide) d_M_swap_171 (fun H locs hP hD hS => ?_)
  replace hP : va_P D cls (wM am cm P (up2 (swG G (d * 6 + p1) (d * 6 + q1)) 1 ((d * 6) + p1) ((swG G (d * 6 + p1) (d * 6 + q1)) 1 ((d * 6) + q1))) X) H := hP
  replace hD : va_D A (wM am cm P (up2 (swG G (d * 6 + p1) (d * 6 + q1)) 1 ((d * 6) + p1) ((swG G (d * 6 + p1) (d * 6 + q1)) 1 ((d * 6) + q1))) X) := hD
  refine lv_aload_n hx hb d_M_swap_172 rfl (lv_at hl 3 rfl) ?_
  refine va_get (D := D) (ci := 3) (v := .ref (am 3)) (C := R_M) (T := F_M) (N := 26) hx hb htb u_M hown hK hP 0 rfl rfl 6 (by decide) (htb _ q585) (fun _ h9 => h9) rfl d_M_swap_173 ?_
  refine nr_bipush hx hb 6 d_M_swap_176 (by decide) ?_
  refine lv_iload_n hx hb d_M_swap_178 rfl (lv_at hl 6 rfl) ?_
  refine nr_imul hx hb d_M_swap_179 ?_
  refine nr_top (y := nI (d * 6)) (congrArg nI (Nat.mul_comm _ _)) ?_
  refine lv_iload_n hx hb d_M_swap_180 rfl (lv_at hl 5 rfl) ?_
  refine nr_iadd hx hb d_M_swap_181 ?_
  refine lv_iload hx hb d_M_swap_182 (lv_at hl 0 rfl) ?_
  refine nr_iast hx hb hK hP hD hS 3 2 rfl rfl (by omega) (by decide) d_M_swap_184 (fun H locs hP hD hS => ?_)
  replace hP : va_P D cls (wM am cm P (up2 (up2 (swG G (d * 6 + p1) (d * 6 + q1)) 1 ((d * 6) + p1) ((swG G (d * 6 + p1) (d * 6 + q1)) 1 ((d * 6) + q1))) 1 ((d * 6) + q1) ((swG G (d * 6 + p1) (d * 6 + q1)) 1 ((d * 6) + p1))) X) H := hP
  replace hD : va_D A (wM am cm P (up2 (up2 (swG G (d * 6 + p1) (d * 6 + q1)) 1 ((d * 6) + p1) ((swG G (d * 6 + p1) (d * 6 + q1)) 1 ((d * 6) + q1))) 1 ((d * 6) + q1) ((swG G (d * 6 + p1) (d * 6 + q1)) 1 ((d * 6) + p1))) X) := hD
  refine lv_aload_n hx hb d_M_swap_185 rfl (lv_at hl 3 rfl) ?_
  refine lv_iload hx hb d_M_swap_186 (lv_at hl 2 rfl) ?_
  refine lv_iload hx hb d_M_swap_188 (lv_at hl 1 rfl) ?_
  refine nr_iconst hx hb 0 d_M_swap_190 (by decide) ?_
  refine nr_iconst hx hb 0 d_M_swap_191 (by decide) ?_
  refine nr_callwi (wr := ([] : va_W)) (va_runV (As := [.int (nI 0), .int (nI 1), .int (nI 0), .int (nI 0)]) (rest := []) ⟨hx, hb, hml, hown, hts⟩ (c_M_throwing l D am cm P (up2 (up2 (swG G (d * 6 + p1) (d * 6 + q1)) 1 ((d * 6) + p1) ((swG G (d * 6 + p1) (d * 6 + q1)) 1 ((d * 6) + q1))) 1 ((d * 6) + q1) ((swG G (d * 6 + p1) (d * 6 + q1)) 1 ((d * 6) + p1))) X 0 1 0 0 (by decide) (by decide) (by decide) (by decide) H.size) ⟨callB_of 4 hts (gTB q_M_throwing) rfl rfl rfl (htb _ q4) (htb _ q669) hd_M_throwing ⟨Nat.le_of_ble_eq_true rfl, Nat.le_of_ble_eq_true rfl⟩, (htb _ q671), (htb _ sel_M_throwing)⟩ ⟨rw_blind, va_recv (hK.sub (tys' := []) [] rfl) hP (ci := 3) (q0 := 0) rfl rfl, rw_pre hN (hP.sub (ws' := (wM am cm P (up2 (up2 (swG G (d * 6 + p1) (d * 6 + q1)) 1 ((d * 6) + p1) ((swG G (d * 6 + p1) (d * 6 + q1)) 1 ((d * 6) + q1))) 1 ((d * 6) + q1) ((swG G (d * 6 + p1) (d * 6 + q1)) 1 ((d * 6) + p1))) X)) [0, 1, 2, 3, 4, 5, 6, 7, 8, 9, 10, 11, 12, 13, 14] rfl) (hK.sub (tys' := (tM cm)) [0, 1, 2, 3, 4, 5, 6, 7, 8, 9, 10, 11, 12, 13] rfl) (hD.sub (ws' := (wM am cm P (up2 (up2 (swG G (d * 6 + p1) (d * 6 + q1)) 1 ((d * 6) + p1) ((swG G (d * 6 + p1) (d * 6 + q1)) 1 ((d * 6) + q1))) 1 ((d * 6) + q1) ((swG G (d * 6 + p1) (d * 6 + q1)) 1 ((d * 6) + p1))) X)) [0, 1, 2, 3, 4, 5, 6, 7, 8, 9, 10, 11, 12, 13, 14] (by decide) rfl)⟩ rfl rfl hl.1 rfl (lv_room (Nat.le_of_ble_eq_true rfl)) d_M_swap_192 ⟨Nat.le_of_ble_eq_true rfl, Nat.le_of_ble_eq_true rfl⟩) hP hD hS hA [0, 1, 2, 3, 4, 5, 6, 7, 8, 9, 10, 11, 12, 13, 14] [] rfl rfl (by decide) (by decide) (fun r_5 u_5 H locs hr_5 hP hD hS => ?_)
  subst hr_5
  replace hP := hP.sub (ws' := wM am cm P (up2 (up2 (swG G (d * 6 + p1) (d * 6 + q1)) 1 ((d * 6) + p1) ((swG G (d * 6 + p1) (d * 6 + q1)) 1 ((d * 6) + q1))) 1 ((d * 6) + q1) ((swG G (d * 6 + p1) (d * 6 + q1)) 1 ((d * 6) + p1))) (up2 X 0 0 2)) [0, 1, 2, 3, 4, 5, 6, 7, 8, 9, 10, 11, 12, 13, 14] rfl
  replace hD := hD.sub (ws' := wM am cm P (up2 (up2 (swG G (d * 6 + p1) (d * 6 + q1)) 1 ((d * 6) + p1) ((swG G (d * 6 + p1) (d * 6 + q1)) 1 ((d * 6) + q1))) 1 ((d * 6) + q1) ((swG G (d * 6 + p1) (d * 6 + q1)) 1 ((d * 6) + p1))) (up2 X 0 0 2)) [0, 1, 2, 3, 4, 5, 6, 7, 8, 9, 10, 11, 12, 13, 14] (by decide) rfl
  refine nr_top (y := nI 1) rfl ?_
  refine lv_pop hx hb d_M_swap_195 rfl ?_
  have hbk : swG (swG G (d * 6 + p1) (d * 6 + q1)) (d * 6 + p1) (d * 6 + q1) = G := sw_sw (by omega)
  have hP : va_P D cls (wM am cm P G (up2 X 0 0 2)) H := by have h9 : va_P D cls (wM am cm P (swG (swG G (d * 6 + p1) (d * 6 + q1)) (d * 6 + p1) (d * 6 + q1)) (up2 X 0 0 2)) H := hP; rw [hbk] at h9; exact h9
  have hD : va_D A (wM am cm P G (up2 X 0 0 2)) := by have h9 : va_D A (wM am cm P (swG (swG G (d * 6 + p1) (d * 6 + q1)) (d * 6 + p1) (d * 6 + q1)) (up2 X 0 0 2)) := hD; rw [hbk] at h9; exact h9
  exact W.vret hx hb hr (fun t ht hW => ⟨⟨(), rfl, trivial, by rw [ht]; exact hP, hD⟩, hS.F ht⟩) hS.2.2 d_M_swap_196
set_option maxHeartbeats 4000000 in
set_option maxRecDepth 100000 in
theorem j_M_swap_1a (l : Launch) (D : va_G) (am : Nat → Nat) (cm : Nat → ClassId) (P G X : Nat → Nat → Nat) (hP0 : okP P) (hG0 : okG G) (hX0 : okX X) (p1 q1 d : Int32) (hbad : inR p1 (P 0 0) = false) (sz : Nat) : Met l y_M_swap w_M_swap { frames := 2, cells := 0, slots := 0, locals := 43 } (rw_P [.ref (am 0), .int p1, .int q1, .int d] D (wM am cm P G X) (tM cm) sz) (rw_Qv (fun u : Unit => True) D (wM am cm P G X) (fun u => wM am cm P G (up2 X 0 0 1)) sz) 0 0 (va_A (wM am cm P G X) sz) := by
  refine Met.ofW (cc := b_M_swap) (maxL := 7) (ret := none) (by decide) rfl ?_
  intro p e s m args below meth c s₁ B hml hv
  obtain ⟨rfl, hsz, hN, hP, hK, hD0⟩ := hv
  have hx := B.exec
  have hb := B.bytes
  have hr := B.returns
  have hts := atoms_spec (ws := w_M_swap) B.pre
  have htb : ∀ w ∈ TBG, w.before [.ref (am 0), .int p1, .int q1, .int d].toArray s = true := fun w h => hts w (List.mem_cons_of_mem _ h)
  have hown : s.vm.findClass R_M = some m.cls := findClass_of_methodNamed B.named
  have hlocks := B.notSynchronized
  subst hsz
  have hD := hD0.self (sz := s.heap.size)
  unfold rw_Qv
  generalize hAe : va_A (wM am cm P G X) s.heap.size = A at hD ⊢
  have hA : ∀ q : Nat, s.heap.size ≤ q → A q := fun q h => by rw [← hAe]; exact Or.inr h
  have hS : va_S A s.heap s.heap [] := va_S.rf
  have hl := lv_entry ([.ref (am 0), .int p1, .int q1, .int d]) (n := 7) (Nat.le_of_ble_eq_true rfl)
  rw [lg_entry_eq]
  generalize (lg_sl ([.ref (am 0), .int p1, .int q1, .int d]) ++ List.replicate (7 - (lg_sl ([.ref (am 0), .int p1, .int q1, .int d])).length) Slot.unset).toArray = ls at hl ⊢
  have hl : lv_has ls 7 [(0, .ref (am 0)), (1, .int p1), (2, .int q1), (3, .int d)] := hl
  refine nr_start hP hS (fun H locs hP hS => ?_)
  obtain ⟨h00, h01, h02, h03, h04, h05, hp1, hp2, hp3, hp4, hp5, hp6⟩ := id hP0
  obtain ⟨k00, k01, hg1, hg2⟩ := id hG0
  obtain ⟨x00, x01, x02, x03, hx1, hx2, hx3, hx4, hx5, hx6, hx7⟩ := id hX0
  refine lv_aload_n hx hb d_M_swap_0 rfl (lv_at hl 0 rfl) ?_
  refine lv_iload_n hx hb d_M_swap_1 rfl (lv_at hl 1 rfl) ?_
  refine nr_calli (va_runV (As := [.int p1]) (rest := []) ⟨hx, hb, hml, hown, hts⟩ (c_M_isPerson l D am cm P G X (am 3) (cm 2) (G 1) hP0 hG0 hX0 hg1 p1) ⟨callB_of 1 hts (gTB q_M_isPerson) rfl rfl rfl (htb _ q4) (htb _ q693) hd_M_isPerson ⟨Nat.le_of_ble_eq_true rfl, Nat.le_of_ble_eq_true rfl⟩, (htb _ q695), (htb _ sel_M_isPerson)⟩ ⟨ro_blind, va_recv (hK.sub (tys' := []) [] rfl) hP (ci := 3) (q0 := 0) rfl rfl, ro_pre hN (hP.sub (ws' := (wMS am cm P G X (am 3) (cm 2) (G 1))) [0, 1, 2, 3, 4, 5, 6, 7, 8, 9, 10, 11, 12, 13, 14, 3] rfl) (hK.sub (tys' := (tMS cm (cm 2))) [0, 1, 2, 3, 4, 5, 6, 7, 8, 9, 10, 11, 12, 13, 2] rfl)⟩ rfl rfl hl.1 rfl (lv_room (Nat.le_of_ble_eq_true rfl)) d_M_swap_2 ⟨Nat.le_of_ble_eq_true rfl, Nat.le_of_ble_eq_true rfl⟩) (fun r_1 hr_1 => ?_)
  subst hr_1
  refine nr_top (y := nI 0) (by rw [hbad]; rfl) ?_
  refine nr_if_eq (tgt := 29) hx hb (by omega) d_M_swap_5 (by decide) (fun c_5 => ?_) (fun c_5 => by exfalso; omega)
  refine nr_iconst hx hb 1 d_M_swap_29 (by decide) ?_
  refine lv_goto (tgt := 34) hx hb d_M_swap_30 (by decide) ?_
  refine lv_istore (lv' := [(4, .int (nI 1)), (0, .ref (am 0)), (1, .int p1), (2, .int q1), (3, .int d)]) hx hb d_M_swap_34 hl (by decide) rfl (fun ls hl => ?_)
  refine lv_iload hx hb d_M_swap_36 (lv_at hl 0 rfl) ?_
  refine nr_if_ne (tgt := 53) hx hb (by omega) d_M_swap_38 (by decide) (fun c_38 => ?_) (fun c_38 => by exfalso; omega)
  refine nr_iconst hx hb 0 d_M_swap_53 (by decide) ?_
  refine lv_istore (lv' := [(5, .int (nI 0)), (4, .int (nI 1)), (0, .ref (am 0)), (1, .int p1), (2, .int q1), (3, .int d)]) hx hb d_M_swap_54 hl (by decide) rfl (fun ls hl => ?_)
  refine lv_iload hx hb d_M_swap_56 (lv_at hl 1 rfl) ?_
  refine nr_if_ne (tgt := 185) hx hb (by omega) d_M_swap_58 (by decide) (fun c_58 => ?_) (fun c_58 => by exfalso; omega)
  refine lv_aload_n hx hb d_M_swap_185 rfl (lv_at hl 2 rfl) ?_
  refine lv_iload hx hb d_M_swap_186 (lv_at hl 1 rfl) ?_
  refine lv_iload hx hb d_M_swap_188 (lv_at hl 0 rfl) ?_
  refine nr_iconst hx hb 0 d_M_swap_190 (by decide) ?_
  refine nr_iconst hx hb 0 d_M_swap_191 (by decide) ?_
  refine nr_callwi (wr := ([] : va_W)) (va_runV (As := [.int (nI 1), .int (nI 0), .int (nI 0), .int (nI 0)]) (rest := []) ⟨hx, hb, hml, hown, hts⟩ (c_M_throwing l D am cm P G X 1 0 0 0 (by decide) (by decide) (by decide) (by decide) H.size) ⟨callB_of 4 hts (gTB q_M_throwing) rfl rfl rfl (htb _ q4) (htb _ q669) hd_M_throwing ⟨Nat.le_of_ble_eq_true rfl, Nat.le_of_ble_eq_true rfl⟩, (htb _ q671), (htb _ sel_M_throwing)⟩ ⟨rw_blind, va_recv (hK.sub (tys' := []) [] rfl) hP (ci := 3) (q0 := 0) rfl rfl, rw_pre hN (hP.sub (ws' := (wM am cm P G X)) [0, 1, 2, 3, 4, 5, 6, 7, 8, 9, 10, 11, 12, 13, 14] rfl) (hK.sub (tys' := (tM cm)) [0, 1, 2, 3, 4, 5, 6, 7, 8, 9, 10, 11, 12, 13] rfl) (hD.sub (ws' := (wM am cm P G X)) [0, 1, 2, 3, 4, 5, 6, 7, 8, 9, 10, 11, 12, 13, 14] (by decide) rfl)⟩ rfl rfl hl.1 rfl (lv_room (Nat.le_of_ble_eq_true rfl)) d_M_swap_192 ⟨Nat.le_of_ble_eq_true rfl, Nat.le_of_ble_eq_true rfl⟩) hP hD hS hA [0, 1, 2, 3, 4, 5, 6, 7, 8, 9, 10, 11, 12, 13, 14] [] rfl rfl (by decide) (by decide) (fun r_2 u_2 H locs hr_2 hP hD hS => ?_)
  subst hr_2
  replace hP := hP.sub (ws' := wM am cm P G (up2 X 0 0 1)) [0, 1, 2, 3, 4, 5, 6, 7, 8, 9, 10, 11, 12, 13, 14] rfl
  replace hD := hD.sub (ws' := wM am cm P G (up2 X 0 0 1)) [0, 1, 2, 3, 4, 5, 6, 7, 8, 9, 10, 11, 12, 13, 14] (by decide) rfl
  refine nr_top (y := nI 1) rfl ?_
  refine lv_pop hx hb d_M_swap_195 rfl ?_
  exact W.vret hx hb hr (fun t ht hW => ⟨⟨(), rfl, trivial, by rw [ht]; exact hP, hD⟩, hS.F ht⟩) hS.2.2 d_M_swap_196
set_option maxHeartbeats 4000000 in
set_option maxRecDepth 100000 in
theorem j_M_swap_1b (l : Launch) (D : va_G) (am : Nat → Nat) (cm : Nat → ClassId) (P G X : Nat → Nat → Nat) (hP0 : okP P) (hG0 : okG G) (hX0 : okX X) (p1 : Nat) (q1 d : Int32) (h_p1 : (p1 < P 0 0)) (hbad : inR q1 (P 0 0) = false) (sz : Nat) : Met l y_M_swap w_M_swap { frames := 2, cells := 0, slots := 0, locals := 43 } (rw_P [.ref (am 0), .int (nI p1), .int q1, .int d] D (wM am cm P G X) (tM cm) sz) (rw_Qv (fun u : Unit => True) D (wM am cm P G X) (fun u => wM am cm P G (up2 X 0 0 1)) sz) 0 0 (va_A (wM am cm P G X) sz) := by
  refine Met.ofW (cc := b_M_swap) (maxL := 7) (ret := none) (by decide) rfl ?_
  intro p e s m args below meth c s₁ B hml hv
  obtain ⟨rfl, hsz, hN, hP, hK, hD0⟩ := hv
  have hx := B.exec
  have hb := B.bytes
  have hr := B.returns
  have hts := atoms_spec (ws := w_M_swap) B.pre
  have htb : ∀ w ∈ TBG, w.before [.ref (am 0), .int (nI p1), .int q1, .int d].toArray s = true := fun w h => hts w (List.mem_cons_of_mem _ h)
  have hown : s.vm.findClass R_M = some m.cls := findClass_of_methodNamed B.named
  have hlocks := B.notSynchronized
  subst hsz
  have hD := hD0.self (sz := s.heap.size)
  unfold rw_Qv
  generalize hAe : va_A (wM am cm P G X) s.heap.size = A at hD ⊢
  have hA : ∀ q : Nat, s.heap.size ≤ q → A q := fun q h => by rw [← hAe]; exact Or.inr h
  have hS : va_S A s.heap s.heap [] := va_S.rf
  have hl := lv_entry ([.ref (am 0), .int (nI p1), .int q1, .int d]) (n := 7) (Nat.le_of_ble_eq_true rfl)
  rw [lg_entry_eq]
  generalize (lg_sl ([.ref (am 0), .int (nI p1), .int q1, .int d]) ++ List.replicate (7 - (lg_sl ([.ref (am 0), .int (nI p1), .int q1, .int d])).length) Slot.unset).toArray = ls at hl ⊢
  have hl : lv_has ls 7 [(0, .ref (am 0)), (1, .int (nI p1)), (2, .int q1), (3, .int d)] := hl
  refine nr_start hP hS (fun H locs hP hS => ?_)
  obtain ⟨h00, h01, h02, h03, h04, h05, hp1, hp2, hp3, hp4, hp5, hp6⟩ := id hP0
  obtain ⟨k00, k01, hg1, hg2⟩ := id hG0
  obtain ⟨x00, x01, x02, x03, hx1, hx2, hx3, hx4, hx5, hx6, hx7⟩ := id hX0
  refine lv_aload_n hx hb d_M_swap_0 rfl (lv_at hl 0 rfl) ?_
  refine lv_iload_n hx hb d_M_swap_1 rfl (lv_at hl 1 rfl) ?_
  refine nr_calli (va_runV (As := [.int (nI p1)]) (rest := []) ⟨hx, hb, hml, hown, hts⟩ (c_M_isPerson l D am cm P G X (am 3) (cm 2) (G 1) hP0 hG0 hX0 hg1 (nI p1)) ⟨callB_of 1 hts (gTB q_M_isPerson) rfl rfl rfl (htb _ q4) (htb _ q693) hd_M_isPerson ⟨Nat.le_of_ble_eq_true rfl, Nat.le_of_ble_eq_true rfl⟩, (htb _ q695), (htb _ sel_M_isPerson)⟩ ⟨ro_blind, va_recv (hK.sub (tys' := []) [] rfl) hP (ci := 3) (q0 := 0) rfl rfl, ro_pre hN (hP.sub (ws' := (wMS am cm P G X (am 3) (cm 2) (G 1))) [0, 1, 2, 3, 4, 5, 6, 7, 8, 9, 10, 11, 12, 13, 14, 3] rfl) (hK.sub (tys' := (tMS cm (cm 2))) [0, 1, 2, 3, 4, 5, 6, 7, 8, 9, 10, 11, 12, 13, 2] rfl)⟩ rfl rfl hl.1 rfl (lv_room (Nat.le_of_ble_eq_true rfl)) d_M_swap_2 ⟨Nat.le_of_ble_eq_true rfl, Nat.le_of_ble_eq_true rfl⟩) (fun r_1 hr_1 => ?_)
  subst hr_1
  refine nr_top (y := nI 1) (by rw [inR_n h_p1 (by omega)]; rfl) ?_
  refine nr_if_eq (tgt := 29) hx hb (by omega) d_M_swap_5 (by decide) (fun c_5 => by exfalso; omega) (fun c_5 => ?_)
  refine lv_aload_n hx hb d_M_swap_8 rfl (lv_at hl 0 rfl) ?_
  refine lv_iload_n hx hb d_M_swap_9 rfl (lv_at hl 2 rfl) ?_
  refine nr_calli (va_runV (As := [.int q1]) (rest := []) ⟨hx, hb, hml, hown, hts⟩ (c_M_isPerson l D am cm P G X (am 3) (cm 2) (G 1) hP0 hG0 hX0 hg1 q1) ⟨callB_of 1 hts (gTB q_M_isPerson) rfl rfl rfl (htb _ q4) (htb _ q693) hd_M_isPerson ⟨Nat.le_of_ble_eq_true rfl, Nat.le_of_ble_eq_true rfl⟩, (htb _ q695), (htb _ sel_M_isPerson)⟩ ⟨ro_blind, va_recv (hK.sub (tys' := []) [] rfl) hP (ci := 3) (q0 := 0) rfl rfl, ro_pre hN (hP.sub (ws' := (wMS am cm P G X (am 3) (cm 2) (G 1))) [0, 1, 2, 3, 4, 5, 6, 7, 8, 9, 10, 11, 12, 13, 14, 3] rfl) (hK.sub (tys' := (tMS cm (cm 2))) [0, 1, 2, 3, 4, 5, 6, 7, 8, 9, 10, 11, 12, 13, 2] rfl)⟩ rfl rfl hl.1 rfl (lv_room (Nat.le_of_ble_eq_true rfl)) d_M_swap_10 ⟨Nat.le_of_ble_eq_true rfl, Nat.le_of_ble_eq_true rfl⟩) (fun r_2 hr_2 => ?_)
  subst hr_2
  refine nr_top (y := nI 0) (by rw [hbad]; rfl) ?_
  refine nr_if_eq (tgt := 29) hx hb (by omega) d_M_swap_13 (by decide) (fun c_13 => ?_) (fun c_13 => by exfalso; omega)
  refine nr_iconst hx hb 1 d_M_swap_29 (by decide) ?_
  refine lv_goto (tgt := 34) hx hb d_M_swap_30 (by decide) ?_
  refine lv_istore (lv' := [(4, .int (nI 1)), (0, .ref (am 0)), (1, .int (nI p1)), (2, .int q1), (3, .int d)]) hx hb d_M_swap_34 hl (by decide) rfl (fun ls hl => ?_)
  refine lv_iload hx hb d_M_swap_36 (lv_at hl 0 rfl) ?_
  refine nr_if_ne (tgt := 53) hx hb (by omega) d_M_swap_38 (by decide) (fun c_38 => ?_) (fun c_38 => by exfalso; omega)
  refine nr_iconst hx hb 0 d_M_swap_53 (by decide) ?_
  refine lv_istore (lv' := [(5, .int (nI 0)), (4, .int (nI 1)), (0, .ref (am 0)), (1, .int (nI p1)), (2, .int q1), (3, .int d)]) hx hb d_M_swap_54 hl (by decide) rfl (fun ls hl => ?_)
  refine lv_iload hx hb d_M_swap_56 (lv_at hl 1 rfl) ?_
  refine nr_if_ne (tgt := 185) hx hb (by omega) d_M_swap_58 (by decide) (fun c_58 => ?_) (fun c_58 => by exfalso; omega)
  refine lv_aload_n hx hb d_M_swap_185 rfl (lv_at hl 2 rfl) ?_
  refine lv_iload hx hb d_M_swap_186 (lv_at hl 1 rfl) ?_
  refine lv_iload hx hb d_M_swap_188 (lv_at hl 0 rfl) ?_
  refine nr_iconst hx hb 0 d_M_swap_190 (by decide) ?_
  refine nr_iconst hx hb 0 d_M_swap_191 (by decide) ?_
  refine nr_callwi (wr := ([] : va_W)) (va_runV (As := [.int (nI 1), .int (nI 0), .int (nI 0), .int (nI 0)]) (rest := []) ⟨hx, hb, hml, hown, hts⟩ (c_M_throwing l D am cm P G X 1 0 0 0 (by decide) (by decide) (by decide) (by decide) H.size) ⟨callB_of 4 hts (gTB q_M_throwing) rfl rfl rfl (htb _ q4) (htb _ q669) hd_M_throwing ⟨Nat.le_of_ble_eq_true rfl, Nat.le_of_ble_eq_true rfl⟩, (htb _ q671), (htb _ sel_M_throwing)⟩ ⟨rw_blind, va_recv (hK.sub (tys' := []) [] rfl) hP (ci := 3) (q0 := 0) rfl rfl, rw_pre hN (hP.sub (ws' := (wM am cm P G X)) [0, 1, 2, 3, 4, 5, 6, 7, 8, 9, 10, 11, 12, 13, 14] rfl) (hK.sub (tys' := (tM cm)) [0, 1, 2, 3, 4, 5, 6, 7, 8, 9, 10, 11, 12, 13] rfl) (hD.sub (ws' := (wM am cm P G X)) [0, 1, 2, 3, 4, 5, 6, 7, 8, 9, 10, 11, 12, 13, 14] (by decide) rfl)⟩ rfl rfl hl.1 rfl (lv_room (Nat.le_of_ble_eq_true rfl)) d_M_swap_192 ⟨Nat.le_of_ble_eq_true rfl, Nat.le_of_ble_eq_true rfl⟩) hP hD hS hA [0, 1, 2, 3, 4, 5, 6, 7, 8, 9, 10, 11, 12, 13, 14] [] rfl rfl (by decide) (by decide) (fun r_3 u_3 H locs hr_3 hP hD hS => ?_)
  subst hr_3
  replace hP := hP.sub (ws' := wM am cm P G (up2 X 0 0 1)) [0, 1, 2, 3, 4, 5, 6, 7, 8, 9, 10, 11, 12, 13, 14] rfl
  replace hD := hD.sub (ws' := wM am cm P G (up2 X 0 0 1)) [0, 1, 2, 3, 4, 5, 6, 7, 8, 9, 10, 11, 12, 13, 14] (by decide) rfl
  refine nr_top (y := nI 1) rfl ?_
  refine lv_pop hx hb d_M_swap_195 rfl ?_
  exact W.vret hx hb hr (fun t ht hW => ⟨⟨(), rfl, trivial, by rw [ht]; exact hP, hD⟩, hS.F ht⟩) hS.2.2 d_M_swap_196
set_option maxHeartbeats 4000000 in
set_option maxRecDepth 100000 in
theorem j_M_swap_1c (l : Launch) (D : va_G) (am : Nat → Nat) (cm : Nat → ClassId) (P G X : Nat → Nat → Nat) (hP0 : okP P) (hG0 : okG G) (hX0 : okX X) (p1 q1 : Nat) (d : Int32) (h_p1 : (p1 < P 0 0)) (h_q1 : (q1 < P 0 0)) (heq : p1 = q1) (sz : Nat) : Met l y_M_swap w_M_swap { frames := 2, cells := 0, slots := 0, locals := 43 } (rw_P [.ref (am 0), .int (nI p1), .int (nI q1), .int d] D (wM am cm P G X) (tM cm) sz) (rw_Qv (fun u : Unit => True) D (wM am cm P G X) (fun u => wM am cm P G (up2 X 0 0 1)) sz) 0 0 (va_A (wM am cm P G X) sz) := by
  refine Met.ofW (cc := b_M_swap) (maxL := 7) (ret := none) (by decide) rfl ?_
  intro p e s m args below meth c s₁ B hml hv
  obtain ⟨rfl, hsz, hN, hP, hK, hD0⟩ := hv
  have hx := B.exec
  have hb := B.bytes
  have hr := B.returns
  have hts := atoms_spec (ws := w_M_swap) B.pre
  have htb : ∀ w ∈ TBG, w.before [.ref (am 0), .int (nI p1), .int (nI q1), .int d].toArray s = true := fun w h => hts w (List.mem_cons_of_mem _ h)
  have hown : s.vm.findClass R_M = some m.cls := findClass_of_methodNamed B.named
  have hlocks := B.notSynchronized
  subst hsz
  have hD := hD0.self (sz := s.heap.size)
  unfold rw_Qv
  generalize hAe : va_A (wM am cm P G X) s.heap.size = A at hD ⊢
  have hA : ∀ q : Nat, s.heap.size ≤ q → A q := fun q h => by rw [← hAe]; exact Or.inr h
  have hS : va_S A s.heap s.heap [] := va_S.rf
  have hl := lv_entry ([.ref (am 0), .int (nI p1), .int (nI q1), .int d]) (n := 7) (Nat.le_of_ble_eq_true rfl)
  rw [lg_entry_eq]
  generalize (lg_sl ([.ref (am 0), .int (nI p1), .int (nI q1), .int d]) ++ List.replicate (7 - (lg_sl ([.ref (am 0), .int (nI p1), .int (nI q1), .int d])).length) Slot.unset).toArray = ls at hl ⊢
  have hl : lv_has ls 7 [(0, .ref (am 0)), (1, .int (nI p1)), (2, .int (nI q1)), (3, .int d)] := hl
  refine nr_start hP hS (fun H locs hP hS => ?_)
  obtain ⟨h00, h01, h02, h03, h04, h05, hp1, hp2, hp3, hp4, hp5, hp6⟩ := id hP0
  obtain ⟨k00, k01, hg1, hg2⟩ := id hG0
  obtain ⟨x00, x01, x02, x03, hx1, hx2, hx3, hx4, hx5, hx6, hx7⟩ := id hX0
  refine lv_aload_n hx hb d_M_swap_0 rfl (lv_at hl 0 rfl) ?_
  refine lv_iload_n hx hb d_M_swap_1 rfl (lv_at hl 1 rfl) ?_
  refine nr_calli (va_runV (As := [.int (nI p1)]) (rest := []) ⟨hx, hb, hml, hown, hts⟩ (c_M_isPerson l D am cm P G X (am 3) (cm 2) (G 1) hP0 hG0 hX0 hg1 (nI p1)) ⟨callB_of 1 hts (gTB q_M_isPerson) rfl rfl rfl (htb _ q4) (htb _ q693) hd_M_isPerson ⟨Nat.le_of_ble_eq_true rfl, Nat.le_of_ble_eq_true rfl⟩, (htb _ q695), (htb _ sel_M_isPerson)⟩ ⟨ro_blind, va_recv (hK.sub (tys' := []) [] rfl) hP (ci := 3) (q0 := 0) rfl rfl, ro_pre hN (hP.sub (ws' := (wMS am cm P G X (am 3) (cm 2) (G 1))) [0, 1, 2, 3, 4, 5, 6, 7, 8, 9, 10, 11, 12, 13, 14, 3] rfl) (hK.sub (tys' := (tMS cm (cm 2))) [0, 1, 2, 3, 4, 5, 6, 7, 8, 9, 10, 11, 12, 13, 2] rfl)⟩ rfl rfl hl.1 rfl (lv_room (Nat.le_of_ble_eq_true rfl)) d_M_swap_2 ⟨Nat.le_of_ble_eq_true rfl, Nat.le_of_ble_eq_true rfl⟩) (fun r_1 hr_1 => ?_)
  subst hr_1
  refine nr_top (y := nI 1) (by rw [inR_n h_p1 (by omega)]; rfl) ?_
  refine nr_if_eq (tgt := 29) hx hb (by omega) d_M_swap_5 (by decide) (fun c_5 => by exfalso; omega) (fun c_5 => ?_)
  refine lv_aload_n hx hb d_M_swap_8 rfl (lv_at hl 0 rfl) ?_
  refine lv_iload_n hx hb d_M_swap_9 rfl (lv_at hl 2 rfl) ?_
  refine nr_calli (va_runV (As := [.int (nI q1)]) (rest := []) ⟨hx, hb, hml, hown, hts⟩ (c_M_isPerson l D am cm P G X (am 3) (cm 2) (G 1) hP0 hG0 hX0 hg1 (nI q1)) ⟨callB_of 1 hts (gTB q_M_isPerson) rfl rfl rfl (htb _ q4) (htb _ q693) hd_M_isPerson ⟨Nat.le_of_ble_eq_true rfl, Nat.le_of_ble_eq_true rfl⟩, (htb _ q695), (htb _ sel_M_isPerson)⟩ ⟨ro_blind, va_recv (hK.sub (tys' := []) [] rfl) hP (ci := 3) (q0 := 0) rfl rfl, ro_pre hN (hP.sub (ws' := (wMS am cm P G X (am 3) (cm 2) (G 1))) [0, 1, 2, 3, 4, 5, 6, 7, 8, 9, 10, 11, 12, 13, 14, 3] rfl) (hK.sub (tys' := (tMS cm (cm 2))) [0, 1, 2, 3, 4, 5, 6, 7, 8, 9, 10, 11, 12, 13, 2] rfl)⟩ rfl rfl hl.1 rfl (lv_room (Nat.le_of_ble_eq_true rfl)) d_M_swap_10 ⟨Nat.le_of_ble_eq_true rfl, Nat.le_of_ble_eq_true rfl⟩) (fun r_2 hr_2 => ?_)
  subst hr_2
  refine nr_top (y := nI 1) (by rw [inR_n h_q1 (by omega)]; rfl) ?_
  refine nr_if_eq (tgt := 29) hx hb (by omega) d_M_swap_13 (by decide) (fun c_13 => by exfalso; omega) (fun c_13 => ?_)
  refine lv_iload_n hx hb d_M_swap_16 rfl (lv_at hl 1 rfl) ?_
  refine lv_iload_n hx hb d_M_swap_17 rfl (lv_at hl 2 rfl) ?_
  refine nr_icmp_eq (tgt := 29) hx hb (by omega) (by omega) d_M_swap_18 (by decide) (fun c_18 => ?_) (fun c_18 => by exfalso; omega)
  refine nr_iconst hx hb 1 d_M_swap_29 (by decide) ?_
  refine lv_goto (tgt := 34) hx hb d_M_swap_30 (by decide) ?_
  refine lv_istore (lv' := [(4, .int (nI 1)), (0, .ref (am 0)), (1, .int (nI p1)), (2, .int (nI q1)), (3, .int d)]) hx hb d_M_swap_34 hl (by decide) rfl (fun ls hl => ?_)
  refine lv_iload hx hb d_M_swap_36 (lv_at hl 0 rfl) ?_
  refine nr_if_ne (tgt := 53) hx hb (by omega) d_M_swap_38 (by decide) (fun c_38 => ?_) (fun c_38 => by exfalso; omega)
  refine nr_iconst hx hb 0 d_M_swap_53 (by decide) ?_
  refine lv_istore (lv' := [(5, .int (nI 0)), (4, .int (nI 1)), (0, .ref (am 0)), (1, .int (nI p1)), (2, .int (nI q1)), (3, .int d)]) hx hb d_M_swap_54 hl (by decide) rfl (fun ls hl => ?_)
  refine lv_iload hx hb d_M_swap_56 (lv_at hl 1 rfl) ?_
  refine nr_if_ne (tgt := 185) hx hb (by omega) d_M_swap_58 (by decide) (fun c_58 => ?_) (fun c_58 => by exfalso; omega)
  refine lv_aload_n hx hb d_M_swap_185 rfl (lv_at hl 2 rfl) ?_
  refine lv_iload hx hb d_M_swap_186 (lv_at hl 1 rfl) ?_
  refine lv_iload hx hb d_M_swap_188 (lv_at hl 0 rfl) ?_
  refine nr_iconst hx hb 0 d_M_swap_190 (by decide) ?_
  refine nr_iconst hx hb 0 d_M_swap_191 (by decide) ?_
  refine nr_callwi (wr := ([] : va_W)) (va_runV (As := [.int (nI 1), .int (nI 0), .int (nI 0), .int (nI 0)]) (rest := []) ⟨hx, hb, hml, hown, hts⟩ (c_M_throwing l D am cm P G X 1 0 0 0 (by decide) (by decide) (by decide) (by decide) H.size) ⟨callB_of 4 hts (gTB q_M_throwing) rfl rfl rfl (htb _ q4) (htb _ q669) hd_M_throwing ⟨Nat.le_of_ble_eq_true rfl, Nat.le_of_ble_eq_true rfl⟩, (htb _ q671), (htb _ sel_M_throwing)⟩ ⟨rw_blind, va_recv (hK.sub (tys' := []) [] rfl) hP (ci := 3) (q0 := 0) rfl rfl, rw_pre hN (hP.sub (ws' := (wM am cm P G X)) [0, 1, 2, 3, 4, 5, 6, 7, 8, 9, 10, 11, 12, 13, 14] rfl) (hK.sub (tys' := (tM cm)) [0, 1, 2, 3, 4, 5, 6, 7, 8, 9, 10, 11, 12, 13] rfl) (hD.sub (ws' := (wM am cm P G X)) [0, 1, 2, 3, 4, 5, 6, 7, 8, 9, 10, 11, 12, 13, 14] (by decide) rfl)⟩ rfl rfl hl.1 rfl (lv_room (Nat.le_of_ble_eq_true rfl)) d_M_swap_192 ⟨Nat.le_of_ble_eq_true rfl, Nat.le_of_ble_eq_true rfl⟩) hP hD hS hA [0, 1, 2, 3, 4, 5, 6, 7, 8, 9, 10, 11, 12, 13, 14] [] rfl rfl (by decide) (by decide) (fun r_3 u_3 H locs hr_3 hP hD hS => ?_)
  subst hr_3
  replace hP := hP.sub (ws' := wM am cm P G (up2 X 0 0 1)) [0, 1, 2, 3, 4, 5, 6, 7, 8, 9, 10, 11, 12, 13, 14] rfl
  replace hD := hD.sub (ws' := wM am cm P G (up2 X 0 0 1)) [0, 1, 2, 3, 4, 5, 6, 7, 8, 9, 10, 11, 12, 13, 14] (by decide) rfl
  refine nr_top (y := nI 1) rfl ?_
  refine lv_pop hx hb d_M_swap_195 rfl ?_
  exact W.vret hx hb hr (fun t ht hW => ⟨⟨(), rfl, trivial, by rw [ht]; exact hP, hD⟩, hS.F ht⟩) hS.2.2 d_M_swap_196
set_option maxHeartbeats 4000000 in
set_option maxRecDepth 100000 in
theorem j_M_swap_1d (l : Launch) (D : va_G) (am : Nat → Nat) (cm : Nat → ClassId) (P G X : Nat → Nat → Nat) (hP0 : okP P) (hG0 : okG G) (hX0 : okX X) (p1 q1 : Nat) (d : Int32) (h_p1 : (p1 < P 0 0)) (h_q1 : (q1 < P 0 0)) (hbad : inR d (P 0 1) = false) (hne : p1 ≠ q1) (sz : Nat) : Met l y_M_swap w_M_swap { frames := 2, cells := 0, slots := 0, locals := 43 } (rw_P [.ref (am 0), .int (nI p1), .int (nI q1), .int d] D (wM am cm P G X) (tM cm) sz) (rw_Qv (fun u : Unit => True) D (wM am cm P G X) (fun u => wM am cm P G (up2 X 0 0 1)) sz) 0 0 (va_A (wM am cm P G X) sz) := by
  refine Met.ofW (cc := b_M_swap) (maxL := 7) (ret := none) (by decide) rfl ?_
  intro p e s m args below meth c s₁ B hml hv
  obtain ⟨rfl, hsz, hN, hP, hK, hD0⟩ := hv
  have hx := B.exec
  have hb := B.bytes
  have hr := B.returns
  have hts := atoms_spec (ws := w_M_swap) B.pre
  have htb : ∀ w ∈ TBG, w.before [.ref (am 0), .int (nI p1), .int (nI q1), .int d].toArray s = true := fun w h => hts w (List.mem_cons_of_mem _ h)
  have hown : s.vm.findClass R_M = some m.cls := findClass_of_methodNamed B.named
  have hlocks := B.notSynchronized
  subst hsz
  have hD := hD0.self (sz := s.heap.size)
  unfold rw_Qv
  generalize hAe : va_A (wM am cm P G X) s.heap.size = A at hD ⊢
  have hA : ∀ q : Nat, s.heap.size ≤ q → A q := fun q h => by rw [← hAe]; exact Or.inr h
  have hS : va_S A s.heap s.heap [] := va_S.rf
  have hl := lv_entry ([.ref (am 0), .int (nI p1), .int (nI q1), .int d]) (n := 7) (Nat.le_of_ble_eq_true rfl)
  rw [lg_entry_eq]
  generalize (lg_sl ([.ref (am 0), .int (nI p1), .int (nI q1), .int d]) ++ List.replicate (7 - (lg_sl ([.ref (am 0), .int (nI p1), .int (nI q1), .int d])).length) Slot.unset).toArray = ls at hl ⊢
  have hl : lv_has ls 7 [(0, .ref (am 0)), (1, .int (nI p1)), (2, .int (nI q1)), (3, .int d)] := hl
  refine nr_start hP hS (fun H locs hP hS => ?_)
  obtain ⟨h00, h01, h02, h03, h04, h05, hp1, hp2, hp3, hp4, hp5, hp6⟩ := id hP0
  obtain ⟨k00, k01, hg1, hg2⟩ := id hG0
  obtain ⟨x00, x01, x02, x03, hx1, hx2, hx3, hx4, hx5, hx6, hx7⟩ := id hX0
  refine lv_aload_n hx hb d_M_swap_0 rfl (lv_at hl 0 rfl) ?_
  refine lv_iload_n hx hb d_M_swap_1 rfl (lv_at hl 1 rfl) ?_
  refine nr_calli (va_runV (As := [.int (nI p1)]) (rest := []) ⟨hx, hb, hml, hown, hts⟩ (c_M_isPerson l D am cm P G X (am 3) (cm 2) (G 1) hP0 hG0 hX0 hg1 (nI p1)) ⟨callB_of 1 hts (gTB q_M_isPerson) rfl rfl rfl (htb _ q4) (htb _ q693) hd_M_isPerson ⟨Nat.le_of_ble_eq_true rfl, Nat.le_of_ble_eq_true rfl⟩, (htb _ q695), (htb _ sel_M_isPerson)⟩ ⟨ro_blind, va_recv (hK.sub (tys' := []) [] rfl) hP (ci := 3) (q0 := 0) rfl rfl, ro_pre hN (hP.sub (ws' := (wMS am cm P G X (am 3) (cm 2) (G 1))) [0, 1, 2, 3, 4, 5, 6, 7, 8, 9, 10, 11, 12, 13, 14, 3] rfl) (hK.sub (tys' := (tMS cm (cm 2))) [0, 1, 2, 3, 4, 5, 6, 7, 8, 9, 10, 11, 12, 13, 2] rfl)⟩ rfl rfl hl.1 rfl (lv_room (Nat.le_of_ble_eq_true rfl)) d_M_swap_2 ⟨Nat.le_of_ble_eq_true rfl, Nat.le_of_ble_eq_true rfl⟩) (fun r_1 hr_1 => ?_)
  subst hr_1
  refine nr_top (y := nI 1) (by rw [inR_n h_p1 (by omega)]; rfl) ?_
  refine nr_if_eq (tgt := 29) hx hb (by omega) d_M_swap_5 (by decide) (fun c_5 => by exfalso; omega) (fun c_5 => ?_)
  refine lv_aload_n hx hb d_M_swap_8 rfl (lv_at hl 0 rfl) ?_
  refine lv_iload_n hx hb d_M_swap_9 rfl (lv_at hl 2 rfl) ?_
  refine nr_calli (va_runV (As := [.int (nI q1)]) (rest := []) ⟨hx, hb, hml, hown, hts⟩ (c_M_isPerson l D am cm P G X (am 3) (cm 2) (G 1) hP0 hG0 hX0 hg1 (nI q1)) ⟨callB_of 1 hts (gTB q_M_isPerson) rfl rfl rfl (htb _ q4) (htb _ q693) hd_M_isPerson ⟨Nat.le_of_ble_eq_true rfl, Nat.le_of_ble_eq_true rfl⟩, (htb _ q695), (htb _ sel_M_isPerson)⟩ ⟨ro_blind, va_recv (hK.sub (tys' := []) [] rfl) hP (ci := 3) (q0 := 0) rfl rfl, ro_pre hN (hP.sub (ws' := (wMS am cm P G X (am 3) (cm 2) (G 1))) [0, 1, 2, 3, 4, 5, 6, 7, 8, 9, 10, 11, 12, 13, 14, 3] rfl) (hK.sub (tys' := (tMS cm (cm 2))) [0, 1, 2, 3, 4, 5, 6, 7, 8, 9, 10, 11, 12, 13, 2] rfl)⟩ rfl rfl hl.1 rfl (lv_room (Nat.le_of_ble_eq_true rfl)) d_M_swap_10 ⟨Nat.le_of_ble_eq_true rfl, Nat.le_of_ble_eq_true rfl⟩) (fun r_2 hr_2 => ?_)
  subst hr_2
  refine nr_top (y := nI 1) (by rw [inR_n h_q1 (by omega)]; rfl) ?_
  refine nr_if_eq (tgt := 29) hx hb (by omega) d_M_swap_13 (by decide) (fun c_13 => by exfalso; omega) (fun c_13 => ?_)
  refine lv_iload_n hx hb d_M_swap_16 rfl (lv_at hl 1 rfl) ?_
  refine lv_iload_n hx hb d_M_swap_17 rfl (lv_at hl 2 rfl) ?_
  refine nr_icmp_eq (tgt := 29) hx hb (by omega) (by omega) d_M_swap_18 (by decide) (fun c_18 => by exfalso; omega) (fun c_18 => ?_)
  refine lv_aload_n hx hb d_M_swap_21 rfl (lv_at hl 0 rfl) ?_
  refine lv_iload_n hx hb d_M_swap_22 rfl (lv_at hl 3 rfl) ?_
  refine nr_calli (va_runV (As := [.int d]) (rest := []) ⟨hx, hb, hml, hown, hts⟩ (c_M_isDay l D am cm P G X (am 3) (cm 2) (G 1) hP0 hG0 hX0 hg1 d) ⟨callB_of 1 hts (gTB q_M_isDay) rfl rfl rfl (htb _ q4) (htb _ q681) hd_M_isDay ⟨Nat.le_of_ble_eq_true rfl, Nat.le_of_ble_eq_true rfl⟩, (htb _ q683), (htb _ sel_M_isDay)⟩ ⟨ro_blind, va_recv (hK.sub (tys' := []) [] rfl) hP (ci := 3) (q0 := 0) rfl rfl, ro_pre hN (hP.sub (ws' := (wMS am cm P G X (am 3) (cm 2) (G 1))) [0, 1, 2, 3, 4, 5, 6, 7, 8, 9, 10, 11, 12, 13, 14, 3] rfl) (hK.sub (tys' := (tMS cm (cm 2))) [0, 1, 2, 3, 4, 5, 6, 7, 8, 9, 10, 11, 12, 13, 2] rfl)⟩ rfl rfl hl.1 rfl (lv_room (Nat.le_of_ble_eq_true rfl)) d_M_swap_23 ⟨Nat.le_of_ble_eq_true rfl, Nat.le_of_ble_eq_true rfl⟩) (fun r_3 hr_3 => ?_)
  subst hr_3
  refine nr_top (y := nI 0) (by rw [hbad]; rfl) ?_
  refine nr_if_ne (tgt := 33) hx hb (by omega) d_M_swap_26 (by decide) (fun c_26 => by exfalso; omega) (fun c_26 => ?_)
  refine nr_iconst hx hb 1 d_M_swap_29 (by decide) ?_
  refine lv_goto (tgt := 34) hx hb d_M_swap_30 (by decide) ?_
  refine lv_istore (lv' := [(4, .int (nI 1)), (0, .ref (am 0)), (1, .int (nI p1)), (2, .int (nI q1)), (3, .int d)]) hx hb d_M_swap_34 hl (by decide) rfl (fun ls hl => ?_)
  refine lv_iload hx hb d_M_swap_36 (lv_at hl 0 rfl) ?_
  refine nr_if_ne (tgt := 53) hx hb (by omega) d_M_swap_38 (by decide) (fun c_38 => ?_) (fun c_38 => by exfalso; omega)
  refine nr_iconst hx hb 0 d_M_swap_53 (by decide) ?_
  refine lv_istore (lv' := [(5, .int (nI 0)), (4, .int (nI 1)), (0, .ref (am 0)), (1, .int (nI p1)), (2, .int (nI q1)), (3, .int d)]) hx hb d_M_swap_54 hl (by decide) rfl (fun ls hl => ?_)
  refine lv_iload hx hb d_M_swap_56 (lv_at hl 1 rfl) ?_
  refine nr_if_ne (tgt := 185) hx hb (by omega) d_M_swap_58 (by decide) (fun c_58 => ?_) (fun c_58 => by exfalso; omega)
  refine lv_aload_n hx hb d_M_swap_185 rfl (lv_at hl 2 rfl) ?_
  refine lv_iload hx hb d_M_swap_186 (lv_at hl 1 rfl) ?_
  refine lv_iload hx hb d_M_swap_188 (lv_at hl 0 rfl) ?_
  refine nr_iconst hx hb 0 d_M_swap_190 (by decide) ?_
  refine nr_iconst hx hb 0 d_M_swap_191 (by decide) ?_
  refine nr_callwi (wr := ([] : va_W)) (va_runV (As := [.int (nI 1), .int (nI 0), .int (nI 0), .int (nI 0)]) (rest := []) ⟨hx, hb, hml, hown, hts⟩ (c_M_throwing l D am cm P G X 1 0 0 0 (by decide) (by decide) (by decide) (by decide) H.size) ⟨callB_of 4 hts (gTB q_M_throwing) rfl rfl rfl (htb _ q4) (htb _ q669) hd_M_throwing ⟨Nat.le_of_ble_eq_true rfl, Nat.le_of_ble_eq_true rfl⟩, (htb _ q671), (htb _ sel_M_throwing)⟩ ⟨rw_blind, va_recv (hK.sub (tys' := []) [] rfl) hP (ci := 3) (q0 := 0) rfl rfl, rw_pre hN (hP.sub (ws' := (wM am cm P G X)) [0, 1, 2, 3, 4, 5, 6, 7, 8, 9, 10, 11, 12, 13, 14] rfl) (hK.sub (tys' := (tM cm)) [0, 1, 2, 3, 4, 5, 6, 7, 8, 9, 10, 11, 12, 13] rfl) (hD.sub (ws' := (wM am cm P G X)) [0, 1, 2, 3, 4, 5, 6, 7, 8, 9, 10, 11, 12, 13, 14] (by decide) rfl)⟩ rfl rfl hl.1 rfl (lv_room (Nat.le_of_ble_eq_true rfl)) d_M_swap_192 ⟨Nat.le_of_ble_eq_true rfl, Nat.le_of_ble_eq_true rfl⟩) hP hD hS hA [0, 1, 2, 3, 4, 5, 6, 7, 8, 9, 10, 11, 12, 13, 14] [] rfl rfl (by decide) (by decide) (fun r_4 u_4 H locs hr_4 hP hD hS => ?_)
  subst hr_4
  replace hP := hP.sub (ws' := wM am cm P G (up2 X 0 0 1)) [0, 1, 2, 3, 4, 5, 6, 7, 8, 9, 10, 11, 12, 13, 14] rfl
  replace hD := hD.sub (ws' := wM am cm P G (up2 X 0 0 1)) [0, 1, 2, 3, 4, 5, 6, 7, 8, 9, 10, 11, 12, 13, 14] (by decide) rfl
  refine nr_top (y := nI 1) rfl ?_
  refine lv_pop hx hb d_M_swap_195 rfl ?_
  exact W.vret hx hb hr (fun t ht hW => ⟨⟨(), rfl, trivial, by rw [ht]; exact hP, hD⟩, hS.F ht⟩) hS.2.2 d_M_swap_196
set_option maxHeartbeats 4000000 in
set_option maxRecDepth 100000 in
theorem j_M_swap_2a (l : Launch) (D : va_G) (am : Nat → Nat) (cm : Nat → ClassId) (P G X : Nat → Nat → Nat) (hP0 : okP P) (hG0 : okG G) (hX0 : okX X) (p1 q1 d : Nat) (h_p1 : (p1 < P 0 0)) (h_q1 : (q1 < P 0 0)) (h_d : (d < P 0 1)) (hne : p1 ≠ q1) (hfz : d < G 0 0) (sz : Nat) : Met l y_M_swap w_M_swap { frames := 2, cells := 0, slots := 0, locals := 43 } (rw_P [.ref (am 0), .int (nI p1), .int (nI q1), .int (nI d)] D (wM am cm P G X) (tM cm) sz) (rw_Qv (fun u : Unit => True) D (wM am cm P G X) (fun u => wM am cm P G (up2 X 0 0 2)) sz) 0 0 (va_A (wM am cm P G X) sz) := by
  refine Met.ofW (cc := b_M_swap) (maxL := 7) (ret := none) (by decide) rfl ?_
  intro p e s m args below meth c s₁ B hml hv
  obtain ⟨rfl, hsz, hN, hP, hK, hD0⟩ := hv
  have hx := B.exec
  have hb := B.bytes
  have hr := B.returns
  have hts := atoms_spec (ws := w_M_swap) B.pre
  have htb : ∀ w ∈ TBG, w.before [.ref (am 0), .int (nI p1), .int (nI q1), .int (nI d)].toArray s = true := fun w h => hts w (List.mem_cons_of_mem _ h)
  have hown : s.vm.findClass R_M = some m.cls := findClass_of_methodNamed B.named
  have hlocks := B.notSynchronized
  subst hsz
  have hD := hD0.self (sz := s.heap.size)
  unfold rw_Qv
  generalize hAe : va_A (wM am cm P G X) s.heap.size = A at hD ⊢
  have hA : ∀ q : Nat, s.heap.size ≤ q → A q := fun q h => by rw [← hAe]; exact Or.inr h
  have hS : va_S A s.heap s.heap [] := va_S.rf
  have hl := lv_entry ([.ref (am 0), .int (nI p1), .int (nI q1), .int (nI d)]) (n := 7) (Nat.le_of_ble_eq_true rfl)
  rw [lg_entry_eq]
  generalize (lg_sl ([.ref (am 0), .int (nI p1), .int (nI q1), .int (nI d)]) ++ List.replicate (7 - (lg_sl ([.ref (am 0), .int (nI p1), .int (nI q1), .int (nI d)])).length) Slot.unset).toArray = ls at hl ⊢
  have hl : lv_has ls 7 [(0, .ref (am 0)), (1, .int (nI p1)), (2, .int (nI q1)), (3, .int (nI d))] := hl
  refine nr_start hP hS (fun H locs hP hS => ?_)
  obtain ⟨h00, h01, h02, h03, h04, h05, hp1, hp2, hp3, hp4, hp5, hp6⟩ := id hP0
  obtain ⟨k00, k01, hg1, hg2⟩ := id hG0
  obtain ⟨x00, x01, x02, x03, hx1, hx2, hx3, hx4, hx5, hx6, hx7⟩ := id hX0
  refine lv_aload_n hx hb d_M_swap_0 rfl (lv_at hl 0 rfl) ?_
  refine lv_iload_n hx hb d_M_swap_1 rfl (lv_at hl 1 rfl) ?_
  refine nr_calli (va_runV (As := [.int (nI p1)]) (rest := []) ⟨hx, hb, hml, hown, hts⟩ (c_M_isPerson l D am cm P G X (am 3) (cm 2) (G 1) hP0 hG0 hX0 hg1 (nI p1)) ⟨callB_of 1 hts (gTB q_M_isPerson) rfl rfl rfl (htb _ q4) (htb _ q693) hd_M_isPerson ⟨Nat.le_of_ble_eq_true rfl, Nat.le_of_ble_eq_true rfl⟩, (htb _ q695), (htb _ sel_M_isPerson)⟩ ⟨ro_blind, va_recv (hK.sub (tys' := []) [] rfl) hP (ci := 3) (q0 := 0) rfl rfl, ro_pre hN (hP.sub (ws' := (wMS am cm P G X (am 3) (cm 2) (G 1))) [0, 1, 2, 3, 4, 5, 6, 7, 8, 9, 10, 11, 12, 13, 14, 3] rfl) (hK.sub (tys' := (tMS cm (cm 2))) [0, 1, 2, 3, 4, 5, 6, 7, 8, 9, 10, 11, 12, 13, 2] rfl)⟩ rfl rfl hl.1 rfl (lv_room (Nat.le_of_ble_eq_true rfl)) d_M_swap_2 ⟨Nat.le_of_ble_eq_true rfl, Nat.le_of_ble_eq_true rfl⟩) (fun r_1 hr_1 => ?_)
  subst hr_1
  refine nr_top (y := nI 1) (by rw [inR_n h_p1 (by omega)]; rfl) ?_
  refine nr_if_eq (tgt := 29) hx hb (by omega) d_M_swap_5 (by decide) (fun c_5 => by exfalso; omega) (fun c_5 => ?_)
  refine lv_aload_n hx hb d_M_swap_8 rfl (lv_at hl 0 rfl) ?_
  refine lv_iload_n hx hb d_M_swap_9 rfl (lv_at hl 2 rfl) ?_
  refine nr_calli (va_runV (As := [.int (nI q1)]) (rest := []) ⟨hx, hb, hml, hown, hts⟩ (c_M_isPerson l D am cm P G X (am 3) (cm 2) (G 1) hP0 hG0 hX0 hg1 (nI q1)) ⟨callB_of 1 hts (gTB q_M_isPerson) rfl rfl rfl (htb _ q4) (htb _ q693) hd_M_isPerson ⟨Nat.le_of_ble_eq_true rfl, Nat.le_of_ble_eq_true rfl⟩, (htb _ q695), (htb _ sel_M_isPerson)⟩ ⟨ro_blind, va_recv (hK.sub (tys' := []) [] rfl) hP (ci := 3) (q0 := 0) rfl rfl, ro_pre hN (hP.sub (ws' := (wMS am cm P G X (am 3) (cm 2) (G 1))) [0, 1, 2, 3, 4, 5, 6, 7, 8, 9, 10, 11, 12, 13, 14, 3] rfl) (hK.sub (tys' := (tMS cm (cm 2))) [0, 1, 2, 3, 4, 5, 6, 7, 8, 9, 10, 11, 12, 13, 2] rfl)⟩ rfl rfl hl.1 rfl (lv_room (Nat.le_of_ble_eq_true rfl)) d_M_swap_10 ⟨Nat.le_of_ble_eq_true rfl, Nat.le_of_ble_eq_true rfl⟩) (fun r_2 hr_2 => ?_)
  subst hr_2
  refine nr_top (y := nI 1) (by rw [inR_n h_q1 (by omega)]; rfl) ?_
  refine nr_if_eq (tgt := 29) hx hb (by omega) d_M_swap_13 (by decide) (fun c_13 => by exfalso; omega) (fun c_13 => ?_)
  refine lv_iload_n hx hb d_M_swap_16 rfl (lv_at hl 1 rfl) ?_
  refine lv_iload_n hx hb d_M_swap_17 rfl (lv_at hl 2 rfl) ?_
  refine nr_icmp_eq (tgt := 29) hx hb (by omega) (by omega) d_M_swap_18 (by decide) (fun c_18 => by exfalso; omega) (fun c_18 => ?_)
  refine lv_aload_n hx hb d_M_swap_21 rfl (lv_at hl 0 rfl) ?_
  refine lv_iload_n hx hb d_M_swap_22 rfl (lv_at hl 3 rfl) ?_
  refine nr_calli (va_runV (As := [.int (nI d)]) (rest := []) ⟨hx, hb, hml, hown, hts⟩ (c_M_isDay l D am cm P G X (am 3) (cm 2) (G 1) hP0 hG0 hX0 hg1 (nI d)) ⟨callB_of 1 hts (gTB q_M_isDay) rfl rfl rfl (htb _ q4) (htb _ q681) hd_M_isDay ⟨Nat.le_of_ble_eq_true rfl, Nat.le_of_ble_eq_true rfl⟩, (htb _ q683), (htb _ sel_M_isDay)⟩ ⟨ro_blind, va_recv (hK.sub (tys' := []) [] rfl) hP (ci := 3) (q0 := 0) rfl rfl, ro_pre hN (hP.sub (ws' := (wMS am cm P G X (am 3) (cm 2) (G 1))) [0, 1, 2, 3, 4, 5, 6, 7, 8, 9, 10, 11, 12, 13, 14, 3] rfl) (hK.sub (tys' := (tMS cm (cm 2))) [0, 1, 2, 3, 4, 5, 6, 7, 8, 9, 10, 11, 12, 13, 2] rfl)⟩ rfl rfl hl.1 rfl (lv_room (Nat.le_of_ble_eq_true rfl)) d_M_swap_23 ⟨Nat.le_of_ble_eq_true rfl, Nat.le_of_ble_eq_true rfl⟩) (fun r_3 hr_3 => ?_)
  subst hr_3
  refine nr_top (y := nI 1) (by rw [inR_n h_d (by omega)]; rfl) ?_
  refine nr_if_ne (tgt := 33) hx hb (by omega) d_M_swap_26 (by decide) (fun c_26 => ?_) (fun c_26 => by exfalso; omega)
  refine nr_iconst hx hb 0 d_M_swap_33 (by decide) ?_
  refine lv_istore (lv' := [(4, .int (nI 0)), (0, .ref (am 0)), (1, .int (nI p1)), (2, .int (nI q1)), (3, .int (nI d))]) hx hb d_M_swap_34 hl (by decide) rfl (fun ls hl => ?_)
  refine lv_iload hx hb d_M_swap_36 (lv_at hl 0 rfl) ?_
  refine nr_if_ne (tgt := 53) hx hb (by omega) d_M_swap_38 (by decide) (fun c_38 => by exfalso; omega) (fun c_38 => ?_)
  refine lv_iload_n hx hb d_M_swap_41 rfl (lv_at hl 4 rfl) ?_
  refine lv_aload_n hx hb d_M_swap_42 rfl (lv_at hl 1 rfl) ?_
  refine va_get (D := D) (ci := 3) (v := .int (nI (G 0 0))) (C := R_M) (T := F_M) (N := 26) hx hb htb u_M hown hK hP 0 rfl rfl 3 (by decide) (htb _ q582) (fun _ h9 => h9) rfl d_M_swap_43 ?_
  refine nr_icmp_ge (tgt := 53) hx hb (by omega) (by omega) d_M_swap_46 (by decide) (fun c_46 => by exfalso; omega) (fun c_46 => ?_)
  refine nr_iconst hx hb 1 d_M_swap_49 (by decide) ?_
  refine lv_goto (tgt := 54) hx hb d_M_swap_50 (by decide) ?_
  refine lv_istore (lv' := [(5, .int (nI 1)), (4, .int (nI 0)), (0, .ref (am 0)), (1, .int (nI p1)), (2, .int (nI q1)), (3, .int (nI d))]) hx hb d_M_swap_54 hl (by decide) rfl (fun ls hl => ?_)
  refine lv_iload hx hb d_M_swap_56 (lv_at hl 1 rfl) ?_
  refine nr_if_ne (tgt := 185) hx hb (by omega) d_M_swap_58 (by decide) (fun c_58 => by exfalso; omega) (fun c_58 => ?_)
  refine lv_iload hx hb d_M_swap_61 (lv_at hl 0 rfl) ?_
  refine nr_if_ne (tgt := 185) hx hb (by omega) d_M_swap_63 (by decide) (fun c_63 => ?_) (fun c_63 => by exfalso; omega)
  refine lv_aload_n hx hb d_M_swap_185 rfl (lv_at hl 2 rfl) ?_
  refine lv_iload hx hb d_M_swap_186 (lv_at hl 1 rfl) ?_
  refine lv_iload hx hb d_M_swap_188 (lv_at hl 0 rfl) ?_
  refine nr_iconst hx hb 0 d_M_swap_190 (by decide) ?_
  refine nr_iconst hx hb 0 d_M_swap_191 (by decide) ?_
  refine nr_callwi (wr := ([] : va_W)) (va_runV (As := [.int (nI 0), .int (nI 1), .int (nI 0), .int (nI 0)]) (rest := []) ⟨hx, hb, hml, hown, hts⟩ (c_M_throwing l D am cm P G X 0 1 0 0 (by decide) (by decide) (by decide) (by decide) H.size) ⟨callB_of 4 hts (gTB q_M_throwing) rfl rfl rfl (htb _ q4) (htb _ q669) hd_M_throwing ⟨Nat.le_of_ble_eq_true rfl, Nat.le_of_ble_eq_true rfl⟩, (htb _ q671), (htb _ sel_M_throwing)⟩ ⟨rw_blind, va_recv (hK.sub (tys' := []) [] rfl) hP (ci := 3) (q0 := 0) rfl rfl, rw_pre hN (hP.sub (ws' := (wM am cm P G X)) [0, 1, 2, 3, 4, 5, 6, 7, 8, 9, 10, 11, 12, 13, 14] rfl) (hK.sub (tys' := (tM cm)) [0, 1, 2, 3, 4, 5, 6, 7, 8, 9, 10, 11, 12, 13] rfl) (hD.sub (ws' := (wM am cm P G X)) [0, 1, 2, 3, 4, 5, 6, 7, 8, 9, 10, 11, 12, 13, 14] (by decide) rfl)⟩ rfl rfl hl.1 rfl (lv_room (Nat.le_of_ble_eq_true rfl)) d_M_swap_192 ⟨Nat.le_of_ble_eq_true rfl, Nat.le_of_ble_eq_true rfl⟩) hP hD hS hA [0, 1, 2, 3, 4, 5, 6, 7, 8, 9, 10, 11, 12, 13, 14] [] rfl rfl (by decide) (by decide) (fun r_4 u_4 H locs hr_4 hP hD hS => ?_)
  subst hr_4
  replace hP := hP.sub (ws' := wM am cm P G (up2 X 0 0 2)) [0, 1, 2, 3, 4, 5, 6, 7, 8, 9, 10, 11, 12, 13, 14] rfl
  replace hD := hD.sub (ws' := wM am cm P G (up2 X 0 0 2)) [0, 1, 2, 3, 4, 5, 6, 7, 8, 9, 10, 11, 12, 13, 14] (by decide) rfl
  refine nr_top (y := nI 1) rfl ?_
  refine lv_pop hx hb d_M_swap_195 rfl ?_
  exact W.vret hx hb hr (fun t ht hW => ⟨⟨(), rfl, trivial, by rw [ht]; exact hP, hD⟩, hS.F ht⟩) hS.2.2 d_M_swap_196
set_option maxHeartbeats 4000000 in
set_option maxRecDepth 100000 in
theorem j_M_share_1 (l : Launch) (D : va_G) (am : Nat → Nat) (cm : Nat → ClassId) (P G X : Nat → Nat → Nat) (hP0 : okP P) (hG0 : okG G) (hX0 : okX X) (x : Int32) (hbad : inR x (P 0 0) = false) (sz : Nat) : Met l y_M_share w_M_share { frames := 3, cells := 0, slots := 0, locals := 67 } (rw_P [.ref (am 0), .int x] D (wM am cm P G X) (tM cm) sz) (rw_Qi (fun (r : Int32) (u : Unit) => r = nI 0) D (wM am cm P G X) (fun u => wM am cm P G (up2 X 0 0 1)) sz) 0 0 (va_A (wM am cm P G X) sz) := by
  refine Met.ofW (cc := b_M_share) (maxL := 4) (ret := (some .int)) (by decide) rfl ?_
  intro p e s m args below meth c s₁ B hml hv
  obtain ⟨rfl, hsz, hN, hP, hK, hD0⟩ := hv
  have hx := B.exec
  have hb := B.bytes
  have hr := B.returns
  have hts := atoms_spec (ws := w_M_share) B.pre
  have htb : ∀ w ∈ TBG, w.before [.ref (am 0), .int x].toArray s = true := fun w h => hts w (List.mem_cons_of_mem _ h)
  have hown : s.vm.findClass R_M = some m.cls := findClass_of_methodNamed B.named
  have hlocks := B.notSynchronized
  subst hsz
  have hD := hD0.self (sz := s.heap.size)
  unfold rw_Qi
  generalize hAe : va_A (wM am cm P G X) s.heap.size = A at hD ⊢
  have hA : ∀ q : Nat, s.heap.size ≤ q → A q := fun q h => by rw [← hAe]; exact Or.inr h
  have hS : va_S A s.heap s.heap [] := va_S.rf
  have hl := lv_entry ([.ref (am 0), .int x]) (n := 4) (Nat.le_of_ble_eq_true rfl)
  rw [lg_entry_eq]
  generalize (lg_sl ([.ref (am 0), .int x]) ++ List.replicate (4 - (lg_sl ([.ref (am 0), .int x])).length) Slot.unset).toArray = ls at hl ⊢
  have hl : lv_has ls 4 [(0, .ref (am 0)), (1, .int x)] := hl
  refine nr_start hP hS (fun H locs hP hS => ?_)
  obtain ⟨h00, h01, h02, h03, h04, h05, hp1, hp2, hp3, hp4, hp5, hp6⟩ := id hP0
  obtain ⟨k00, k01, hg1, hg2⟩ := id hG0
  obtain ⟨x00, x01, x02, x03, hx1, hx2, hx3, hx4, hx5, hx6, hx7⟩ := id hX0
  have hca := costAll_le hP0 (G 1)
  have hc1 := costOne_le hP0 (G 1)
  refine lv_aload_n hx hb d_M_share_0 rfl (lv_at hl 0 rfl) ?_
  refine nr_callwi (wr := ([] : va_W)) (va_runV (As := []) (rest := []) ⟨hx, hb, hml, hown, hts⟩ (k_M_cost l D am cm P G X hP0 hG0 hX0 H.size) ⟨callB_of 0 hts (gTB q_M_cost) rfl rfl rfl (htb _ q4) (htb _ q782) hd_M_cost ⟨Nat.le_of_ble_eq_true rfl, Nat.le_of_ble_eq_true rfl⟩, (htb _ q771), (htb _ q772)⟩ ⟨rw_blind, va_recv (hK.sub (tys' := []) [] rfl) hP (ci := 3) (q0 := 0) rfl rfl, rw_pre hN (hP.sub (ws' := (wM am cm P G X)) [0, 1, 2, 3, 4, 5, 6, 7, 8, 9, 10, 11, 12, 13, 14] rfl) (hK.sub (tys' := (tM cm)) [0, 1, 2, 3, 4, 5, 6, 7, 8, 9, 10, 11, 12, 13] rfl) (hD.sub (ws' := (wM am cm P G X)) [0, 1, 2, 3, 4, 5, 6, 7, 8, 9, 10, 11, 12, 13, 14] (by decide) rfl)⟩ rfl rfl hl.1 rfl (lv_room (Nat.le_of_ble_eq_true rfl)) d_M_share_1 ⟨Nat.le_of_ble_eq_true rfl, Nat.le_of_ble_eq_true rfl⟩) hP hD hS hA [0, 1, 2, 3, 4, 5, 6, 7, 8, 9, 10, 11, 12, 13, 14] [] rfl rfl (by decide) (by decide) (fun r_1 u_1 H locs hr_1 hP hD hS => ?_)
  subst hr_1
  replace hP := hP.sub (ws' := wM am cm P G (up2 X 0 0 0)) [0, 1, 2, 3, 4, 5, 6, 7, 8, 9, 10, 11, 12, 13, 14] rfl
  replace hD := hD.sub (ws' := wM am cm P G (up2 X 0 0 0)) [0, 1, 2, 3, 4, 5, 6, 7, 8, 9, 10, 11, 12, 13, 14] (by decide) rfl
  refine lv_istore_n (lv' := [(2, .int (nI (costAll P (G 1)))), (0, .ref (am 0)), (1, .int x)]) hx hb d_M_share_4 rfl hl (by decide) rfl (fun ls hl => ?_)
  refine lv_aload_n hx hb d_M_share_5 rfl (lv_at hl 1 rfl) ?_
  refine lv_iload_n hx hb d_M_share_6 rfl (lv_at hl 2 rfl) ?_
  refine nr_calli (va_runV (As := [.int x]) (rest := []) ⟨hx, hb, hml, hown, hts⟩ (c_M_isPerson l D am cm P G (up2 X 0 0 0) (am 3) (cm 2) (G 1) hP0 hG0 (okx_0 hX0) hg1 x) ⟨callB_of 1 hts (gTB q_M_isPerson) rfl rfl rfl (htb _ q4) (htb _ q693) hd_M_isPerson ⟨Nat.le_of_ble_eq_true rfl, Nat.le_of_ble_eq_true rfl⟩, (htb _ q695), (htb _ sel_M_isPerson)⟩ ⟨ro_blind, va_recv (hK.sub (tys' := []) [] rfl) hP (ci := 3) (q0 := 0) rfl rfl, ro_pre hN (hP.sub (ws' := (wMS am cm P G (up2 X 0 0 0) (am 3) (cm 2) (G 1))) [0, 1, 2, 3, 4, 5, 6, 7, 8, 9, 10, 11, 12, 13, 14, 3] rfl) (hK.sub (tys' := (tMS cm (cm 2))) [0, 1, 2, 3, 4, 5, 6, 7, 8, 9, 10, 11, 12, 13, 2] rfl)⟩ rfl rfl hl.1 rfl (lv_room (Nat.le_of_ble_eq_true rfl)) d_M_share_7 ⟨Nat.le_of_ble_eq_true rfl, Nat.le_of_ble_eq_true rfl⟩) (fun r_2 hr_2 => ?_)
  subst hr_2
  refine nr_top (y := nI 0) (by rw [hbad]; rfl) ?_
  refine nr_if_ne (tgt := 17) hx hb (by omega) d_M_share_10 (by decide) (fun c_10 => by exfalso; omega) (fun c_10 => ?_)
  refine nr_iconst hx hb 1 d_M_share_13 (by decide) ?_
  refine lv_goto (tgt := 18) hx hb d_M_share_14 (by decide) ?_
  refine lv_istore_n (lv' := [(3, .int (nI 1)), (2, .int (nI (costAll P (G 1)))), (0, .ref (am 0)), (1, .int x)]) hx hb d_M_share_18 rfl hl (by decide) rfl (fun ls hl => ?_)
  refine lv_aload_n hx hb d_M_share_19 rfl (lv_at hl 2 rfl) ?_
  refine lv_iload_n hx hb d_M_share_20 rfl (lv_at hl 0 rfl) ?_
  refine lv_iload_n hx hb d_M_share_21 rfl (lv_at hl 1 rfl) ?_
  refine nr_if_ne (tgt := 29) hx hb (by omega) d_M_share_22 (by decide) (fun c_22 => ?_) (fun c_22 => ?_)
  · refine nr_iconst hx hb 0 d_M_share_29 (by decide) ?_
    refine nr_iconst hx hb 0 d_M_share_30 (by decide) ?_
    refine nr_iconst hx hb 0 d_M_share_31 (by decide) ?_
    refine nr_callwi (wr := ([] : va_W)) (va_runV (As := [.int (nI 1), .int (nI 0), .int (nI 0), .int (nI 0)]) (rest := []) ⟨hx, hb, hml, hown, hts⟩ (c_M_throwing l D am cm P G (up2 X 0 0 0) 1 0 0 0 (by decide) (by decide) (by decide) (by decide) H.size) ⟨callB_of 4 hts (gTB q_M_throwing) rfl rfl rfl (htb _ q4) (htb _ q669) hd_M_throwing ⟨Nat.le_of_ble_eq_true rfl, Nat.le_of_ble_eq_true rfl⟩, (htb _ q671), (htb _ sel_M_throwing)⟩ ⟨rw_blind, va_recv (hK.sub (tys' := []) [] rfl) hP (ci := 3) (q0 := 0) rfl rfl, rw_pre hN (hP.sub (ws' := (wM am cm P G (up2 X 0 0 0))) [0, 1, 2, 3, 4, 5, 6, 7, 8, 9, 10, 11, 12, 13, 14] rfl) (hK.sub (tys' := (tM cm)) [0, 1, 2, 3, 4, 5, 6, 7, 8, 9, 10, 11, 12, 13] rfl) (hD.sub (ws' := (wM am cm P G (up2 X 0 0 0))) [0, 1, 2, 3, 4, 5, 6, 7, 8, 9, 10, 11, 12, 13, 14] (by decide) rfl)⟩ rfl rfl hl.1 rfl (lv_room (Nat.le_of_ble_eq_true rfl)) d_M_share_32 ⟨Nat.le_of_ble_eq_true rfl, Nat.le_of_ble_eq_true rfl⟩) hP hD hS hA [0, 1, 2, 3, 4, 5, 6, 7, 8, 9, 10, 11, 12, 13, 14] [] rfl rfl (by decide) (by decide) (fun r_3 u_3 H locs hr_3 hP hD hS => ?_)
    subst hr_3
    replace hP := hP.sub (ws' := wM am cm P G (up2 (up2 X 0 0 0) 0 0 1)) [0, 1, 2, 3, 4, 5, 6, 7, 8, 9, 10, 11, 12, 13, 14] rfl
    replace hD := hD.sub (ws' := wM am cm P G (up2 (up2 X 0 0 0) 0 0 1)) [0, 1, 2, 3, 4, 5, 6, 7, 8, 9, 10, 11, 12, 13, 14] (by decide) rfl
    refine nr_top (y := nI 1) rfl ?_
    refine nr_if_eq (tgt := 40) hx hb (by omega) d_M_share_35 (by decide) (fun c_35 => by exfalso; omega) (fun c_35 => ?_)
    refine nr_iconst hx hb 0 d_M_share_38 (by decide) ?_
    replace hP := wM_0g (b := 1) hP
    have hD := wM_0gD (b := 1) hD
    exact W.iret (v := (nI 0)) hx hb hr (fun t ht hW => ⟨⟨_, (), rfl, rfl, by rw [ht]; exact hP, hD⟩, hS.F ht⟩) hS.2.2 d_M_share_39
  · refine nr_iconst hx hb 1 d_M_share_25 (by decide) ?_
    refine lv_goto (tgt := 30) hx hb d_M_share_26 (by decide) ?_
    refine nr_iconst hx hb 0 d_M_share_30 (by decide) ?_
    refine nr_iconst hx hb 0 d_M_share_31 (by decide) ?_
    refine nr_callwi (wr := ([] : va_W)) (va_runV (As := [.int (nI 1), .int (nI 1), .int (nI 0), .int (nI 0)]) (rest := []) ⟨hx, hb, hml, hown, hts⟩ (c_M_throwing l D am cm P G (up2 X 0 0 0) 1 1 0 0 (by decide) (by decide) (by decide) (by decide) H.size) ⟨callB_of 4 hts (gTB q_M_throwing) rfl rfl rfl (htb _ q4) (htb _ q669) hd_M_throwing ⟨Nat.le_of_ble_eq_true rfl, Nat.le_of_ble_eq_true rfl⟩, (htb _ q671), (htb _ sel_M_throwing)⟩ ⟨rw_blind, va_recv (hK.sub (tys' := []) [] rfl) hP (ci := 3) (q0 := 0) rfl rfl, rw_pre hN (hP.sub (ws' := (wM am cm P G (up2 X 0 0 0))) [0, 1, 2, 3, 4, 5, 6, 7, 8, 9, 10, 11, 12, 13, 14] rfl) (hK.sub (tys' := (tM cm)) [0, 1, 2, 3, 4, 5, 6, 7, 8, 9, 10, 11, 12, 13] rfl) (hD.sub (ws' := (wM am cm P G (up2 X 0 0 0))) [0, 1, 2, 3, 4, 5, 6, 7, 8, 9, 10, 11, 12, 13, 14] (by decide) rfl)⟩ rfl rfl hl.1 rfl (lv_room (Nat.le_of_ble_eq_true rfl)) d_M_share_32 ⟨Nat.le_of_ble_eq_true rfl, Nat.le_of_ble_eq_true rfl⟩) hP hD hS hA [0, 1, 2, 3, 4, 5, 6, 7, 8, 9, 10, 11, 12, 13, 14] [] rfl rfl (by decide) (by decide) (fun r_4 u_4 H locs hr_4 hP hD hS => ?_)
    subst hr_4
    replace hP := hP.sub (ws' := wM am cm P G (up2 (up2 X 0 0 0) 0 0 1)) [0, 1, 2, 3, 4, 5, 6, 7, 8, 9, 10, 11, 12, 13, 14] rfl
    replace hD := hD.sub (ws' := wM am cm P G (up2 (up2 X 0 0 0) 0 0 1)) [0, 1, 2, 3, 4, 5, 6, 7, 8, 9, 10, 11, 12, 13, 14] (by decide) rfl
    refine nr_top (y := nI 1) rfl ?_
    refine nr_if_eq (tgt := 40) hx hb (by omega) d_M_share_35 (by decide) (fun c_35 => by exfalso; omega) (fun c_35 => ?_)
    refine nr_iconst hx hb 0 d_M_share_38 (by decide) ?_
    replace hP := wM_0g (b := 1) hP
    have hD := wM_0gD (b := 1) hD
    exact W.iret (v := (nI 0)) hx hb hr (fun t ht hW => ⟨⟨_, (), rfl, rfl, by rw [ht]; exact hP, hD⟩, hS.F ht⟩) hS.2.2 d_M_share_39
set_option maxHeartbeats 4000000 in
set_option maxRecDepth 100000 in
theorem j_M_share_2 (l : Launch) (D : va_G) (am : Nat → Nat) (cm : Nat → ClassId) (P G X : Nat → Nat → Nat) (hP0 : okP P) (hG0 : okG G) (hX0 : okX X) (p1 : Nat) (hp : p1 < P 0 0) (hz : costAll P (G 1) = 0) (sz : Nat) : Met l y_M_share w_M_share { frames := 3, cells := 0, slots := 0, locals := 67 } (rw_P [.ref (am 0), .int (nI p1)] D (wM am cm P G X) (tM cm) sz) (rw_Qi (fun (r : Int32) (u : Unit) => r = nI 0) D (wM am cm P G X) (fun u => wM am cm P G (up2 X 0 0 2)) sz) 0 0 (va_A (wM am cm P G X) sz) := by
  refine Met.ofW (cc := b_M_share) (maxL := 4) (ret := (some .int)) (by decide) rfl ?_
  intro p e s m args below meth c s₁ B hml hv
  obtain ⟨rfl, hsz, hN, hP, hK, hD0⟩ := hv
  have hx := B.exec
  have hb := B.bytes
  have hr := B.returns
  have hts := atoms_spec (ws := w_M_share) B.pre
  have htb : ∀ w ∈ TBG, w.before [.ref (am 0), .int (nI p1)].toArray s = true := fun w h => hts w (List.mem_cons_of_mem _ h)
  have hown : s.vm.findClass R_M = some m.cls := findClass_of_methodNamed B.named
  have hlocks := B.notSynchronized
  subst hsz
  have hD := hD0.self (sz := s.heap.size)
  unfold rw_Qi
  generalize hAe : va_A (wM am cm P G X) s.heap.size = A at hD ⊢
  have hA : ∀ q : Nat, s.heap.size ≤ q → A q := fun q h => by rw [← hAe]; exact Or.inr h
  have hS : va_S A s.heap s.heap [] := va_S.rf
  have hl := lv_entry ([.ref (am 0), .int (nI p1)]) (n := 4) (Nat.le_of_ble_eq_true rfl)
  rw [lg_entry_eq]
  generalize (lg_sl ([.ref (am 0), .int (nI p1)]) ++ List.replicate (4 - (lg_sl ([.ref (am 0), .int (nI p1)])).length) Slot.unset).toArray = ls at hl ⊢
  have hl : lv_has ls 4 [(0, .ref (am 0)), (1, .int (nI p1))] := hl
  refine nr_start hP hS (fun H locs hP hS => ?_)
  obtain ⟨h00, h01, h02, h03, h04, h05, hp1, hp2, hp3, hp4, hp5, hp6⟩ := id hP0
  obtain ⟨k00, k01, hg1, hg2⟩ := id hG0
  obtain ⟨x00, x01, x02, x03, hx1, hx2, hx3, hx4, hx5, hx6, hx7⟩ := id hX0
  have hca := costAll_le hP0 (G 1)
  have hc1 := costOne_le hP0 (G 1)
  refine lv_aload_n hx hb d_M_share_0 rfl (lv_at hl 0 rfl) ?_
  refine nr_callwi (wr := ([] : va_W)) (va_runV (As := []) (rest := []) ⟨hx, hb, hml, hown, hts⟩ (k_M_cost l D am cm P G X hP0 hG0 hX0 H.size) ⟨callB_of 0 hts (gTB q_M_cost) rfl rfl rfl (htb _ q4) (htb _ q782) hd_M_cost ⟨Nat.le_of_ble_eq_true rfl, Nat.le_of_ble_eq_true rfl⟩, (htb _ q771), (htb _ q772)⟩ ⟨rw_blind, va_recv (hK.sub (tys' := []) [] rfl) hP (ci := 3) (q0 := 0) rfl rfl, rw_pre hN (hP.sub (ws' := (wM am cm P G X)) [0, 1, 2, 3, 4, 5, 6, 7, 8, 9, 10, 11, 12, 13, 14] rfl) (hK.sub (tys' := (tM cm)) [0, 1, 2, 3, 4, 5, 6, 7, 8, 9, 10, 11, 12, 13] rfl) (hD.sub (ws' := (wM am cm P G X)) [0, 1, 2, 3, 4, 5, 6, 7, 8, 9, 10, 11, 12, 13, 14] (by decide) rfl)⟩ rfl rfl hl.1 rfl (lv_room (Nat.le_of_ble_eq_true rfl)) d_M_share_1 ⟨Nat.le_of_ble_eq_true rfl, Nat.le_of_ble_eq_true rfl⟩) hP hD hS hA [0, 1, 2, 3, 4, 5, 6, 7, 8, 9, 10, 11, 12, 13, 14] [] rfl rfl (by decide) (by decide) (fun r_1 u_1 H locs hr_1 hP hD hS => ?_)
  subst hr_1
  replace hP := hP.sub (ws' := wM am cm P G (up2 X 0 0 0)) [0, 1, 2, 3, 4, 5, 6, 7, 8, 9, 10, 11, 12, 13, 14] rfl
  replace hD := hD.sub (ws' := wM am cm P G (up2 X 0 0 0)) [0, 1, 2, 3, 4, 5, 6, 7, 8, 9, 10, 11, 12, 13, 14] (by decide) rfl
  refine lv_istore_n (lv' := [(2, .int (nI (costAll P (G 1)))), (0, .ref (am 0)), (1, .int (nI p1))]) hx hb d_M_share_4 rfl hl (by decide) rfl (fun ls hl => ?_)
  refine lv_aload_n hx hb d_M_share_5 rfl (lv_at hl 1 rfl) ?_
  refine lv_iload_n hx hb d_M_share_6 rfl (lv_at hl 2 rfl) ?_
  refine nr_calli (va_runV (As := [.int (nI p1)]) (rest := []) ⟨hx, hb, hml, hown, hts⟩ (c_M_isPerson l D am cm P G (up2 X 0 0 0) (am 3) (cm 2) (G 1) hP0 hG0 (okx_0 hX0) hg1 (nI p1)) ⟨callB_of 1 hts (gTB q_M_isPerson) rfl rfl rfl (htb _ q4) (htb _ q693) hd_M_isPerson ⟨Nat.le_of_ble_eq_true rfl, Nat.le_of_ble_eq_true rfl⟩, (htb _ q695), (htb _ sel_M_isPerson)⟩ ⟨ro_blind, va_recv (hK.sub (tys' := []) [] rfl) hP (ci := 3) (q0 := 0) rfl rfl, ro_pre hN (hP.sub (ws' := (wMS am cm P G (up2 X 0 0 0) (am 3) (cm 2) (G 1))) [0, 1, 2, 3, 4, 5, 6, 7, 8, 9, 10, 11, 12, 13, 14, 3] rfl) (hK.sub (tys' := (tMS cm (cm 2))) [0, 1, 2, 3, 4, 5, 6, 7, 8, 9, 10, 11, 12, 13, 2] rfl)⟩ rfl rfl hl.1 rfl (lv_room (Nat.le_of_ble_eq_true rfl)) d_M_share_7 ⟨Nat.le_of_ble_eq_true rfl, Nat.le_of_ble_eq_true rfl⟩) (fun r_2 hr_2 => ?_)
  subst hr_2
  refine nr_top (y := nI 1) (by rw [inR_n hp (by omega)]; rfl) ?_
  refine nr_if_ne (tgt := 17) hx hb (by omega) d_M_share_10 (by decide) (fun c_10 => ?_) (fun c_10 => by exfalso; omega)
  refine nr_iconst hx hb 0 d_M_share_17 (by decide) ?_
  refine lv_istore_n (lv' := [(3, .int (nI 0)), (2, .int (nI (costAll P (G 1)))), (0, .ref (am 0)), (1, .int (nI p1))]) hx hb d_M_share_18 rfl hl (by decide) rfl (fun ls hl => ?_)
  refine lv_aload_n hx hb d_M_share_19 rfl (lv_at hl 2 rfl) ?_
  refine lv_iload_n hx hb d_M_share_20 rfl (lv_at hl 0 rfl) ?_
  refine lv_iload_n hx hb d_M_share_21 rfl (lv_at hl 1 rfl) ?_
  refine nr_if_ne (tgt := 29) hx hb (by omega) d_M_share_22 (by decide) (fun c_22 => by exfalso; omega) (fun c_22 => ?_)
  refine nr_iconst hx hb 1 d_M_share_25 (by decide) ?_
  refine lv_goto (tgt := 30) hx hb d_M_share_26 (by decide) ?_
  refine nr_iconst hx hb 0 d_M_share_30 (by decide) ?_
  refine nr_iconst hx hb 0 d_M_share_31 (by decide) ?_
  refine nr_callwi (wr := ([] : va_W)) (va_runV (As := [.int (nI 0), .int (nI 1), .int (nI 0), .int (nI 0)]) (rest := []) ⟨hx, hb, hml, hown, hts⟩ (c_M_throwing l D am cm P G (up2 X 0 0 0) 0 1 0 0 (by decide) (by decide) (by decide) (by decide) H.size) ⟨callB_of 4 hts (gTB q_M_throwing) rfl rfl rfl (htb _ q4) (htb _ q669) hd_M_throwing ⟨Nat.le_of_ble_eq_true rfl, Nat.le_of_ble_eq_true rfl⟩, (htb _ q671), (htb _ sel_M_throwing)⟩ ⟨rw_blind, va_recv (hK.sub (tys' := []) [] rfl) hP (ci := 3) (q0 := 0) rfl rfl, rw_pre hN (hP.sub (ws' := (wM am cm P G (up2 X 0 0 0))) [0, 1, 2, 3, 4, 5, 6, 7, 8, 9, 10, 11, 12, 13, 14] rfl) (hK.sub (tys' := (tM cm)) [0, 1, 2, 3, 4, 5, 6, 7, 8, 9, 10, 11, 12, 13] rfl) (hD.sub (ws' := (wM am cm P G (up2 X 0 0 0))) [0, 1, 2, 3, 4, 5, 6, 7, 8, 9, 10, 11, 12, 13, 14] (by decide) rfl)⟩ rfl rfl hl.1 rfl (lv_room (Nat.le_of_ble_eq_true rfl)) d_M_share_32 ⟨Nat.le_of_ble_eq_true rfl, Nat.le_of_ble_eq_true rfl⟩) hP hD hS hA [0, 1, 2, 3, 4, 5, 6, 7, 8, 9, 10, 11, 12, 13, 14] [] rfl rfl (by decide) (by decide) (fun r_3 u_3 H locs hr_3 hP hD hS => ?_)
  subst hr_3
  replace hP := hP.sub (ws' := wM am cm P G (up2 (up2 X 0 0 0) 0 0 2)) [0, 1, 2, 3, 4, 5, 6, 7, 8, 9, 10, 11, 12, 13, 14] rfl
  replace hD := hD.sub (ws' := wM am cm P G (up2 (up2 X 0 0 0) 0 0 2)) [0, 1, 2, 3, 4, 5, 6, 7, 8, 9, 10, 11, 12, 13, 14] (by decide) rfl
  refine nr_top (y := nI 1) rfl ?_
  refine nr_if_eq (tgt := 40) hx hb (by omega) d_M_share_35 (by decide) (fun c_35 => by exfalso; omega) (fun c_35 => ?_)
  refine nr_iconst hx hb 0 d_M_share_38 (by decide) ?_
  replace hP := wM_0g (b := 2) hP
  have hD := wM_0gD (b := 2) hD
  exact W.iret (v := (nI 0)) hx hb hr (fun t ht hW => ⟨⟨_, (), rfl, rfl, by rw [ht]; exact hP, hD⟩, hS.F ht⟩) hS.2.2 d_M_share_39
set_option maxHeartbeats 4000000 in
set_option maxRecDepth 100000 in
theorem k_M_solve0 (l : Launch) (D : va_G) (am : Nat → Nat) (cm : Nat → ClassId) (P G X : Nat → Nat → Nat) (hP0 : okP P) (hG0 : okG G) (hX0 : okX X) (lim : Nat) (hlim : lim ≤ 20000) (hz : P 0 0 = 0 ∨ P 0 1 = 0) (sz : Nat) : Met l y_M_solve w_M_solve { frames := 2, cells := 0, slots := 0, locals := 48 } (rw_P [.ref (am 0), .int (nI lim)] D (wM am cm P G X) (tM cm) sz) (rw_Qi (fun (r : Int32) (u : Nat → Nat → Nat) => solM X u (slv P (G 1) (G 0 0) lim) r) D (wM am cm P G X) (fun u => wM am cm P (svG G (slv P (G 1) (G 0 0) lim)) u) sz) 0 0 (va_A (wM am cm P G X) sz) := by
  refine Met.ofW (cc := b_M_solve) (maxL := 4) (ret := (some .int)) (by decide) rfl ?_
  intro p e s m args below meth c s₁ B hml hv
  obtain ⟨rfl, hsz, hN, hP, hK, hD0⟩ := hv
  have hx := B.exec
  have hb := B.bytes
  have hr := B.returns
  have hts := atoms_spec (ws := w_M_solve) B.pre
  have htb : ∀ w ∈ TBG, w.before [.ref (am 0), .int (nI lim)].toArray s = true := fun w h => hts w (List.mem_cons_of_mem _ h)
  have hown : s.vm.findClass R_M = some m.cls := findClass_of_methodNamed B.named
  have hlocks := B.notSynchronized
  subst hsz
  have hD := hD0.self (sz := s.heap.size)
  unfold rw_Qi
  generalize hAe : va_A (wM am cm P G X) s.heap.size = A at hD ⊢
  have hA : ∀ q : Nat, s.heap.size ≤ q → A q := fun q h => by rw [← hAe]; exact Or.inr h
  have hS : va_S A s.heap s.heap [] := va_S.rf
  have hl := lv_entry ([.ref (am 0), .int (nI lim)]) (n := 4) (Nat.le_of_ble_eq_true rfl)
  rw [lg_entry_eq]
  generalize (lg_sl ([.ref (am 0), .int (nI lim)]) ++ List.replicate (4 - (lg_sl ([.ref (am 0), .int (nI lim)])).length) Slot.unset).toArray = ls at hl ⊢
  have hl : lv_has ls 4 [(0, .ref (am 0)), (1, .int (nI lim))] := hl
  refine nr_start hP hS (fun H locs hP hS => ?_)
  obtain ⟨h00, h01, h02, h03, h04, h05, hp1, hp2, hp3, hp4, hp5, hp6⟩ := id hP0
  obtain ⟨k00, k01, hg1, hg2⟩ := id hG0
  obtain ⟨x00, x01, x02, x03, hx1, hx2, hx3, hx4, hx5, hx6, hx7⟩ := id hX0
  have hpz : P 0 0 * P 0 1 = 0 := by rcases hz with h | h <;> simp [h]
  have hXb : okX (up2 (up2 (up2 (up2 X 0 0 0) 0 1 1) 0 2 0) 0 3 0) := ⟨Nat.zero_le _, Nat.le_refl 1, Nat.zero_le _, Nat.zero_le _, hx1, hx2, hx3, hx4, hx5, hx6, hx7⟩
  refine lv_aload_n hx hb d_M_solve_0 rfl (lv_at hl 0 rfl) ?_
  refine lv_iload_n hx hb d_M_solve_1 rfl (lv_at hl 1 rfl) ?_
  refine nr_iconst hx hb 0 d_M_solve_2 (by decide) ?_
  refine nr_sipush hx hb 20000 d_M_solve_3 (by decide) ?_
  refine nr_calli (va_runS (As := [.int (nI lim), .int (nI 0), .int (nI 20000)]) (rest := [.ref (am 0)]) ⟨hx, hb, hml, hown, hts⟩ (c_M_in l D (nI lim) (nI 0) (nI 20000)) ⟨callB_of 3 hts (gTB q_M_in) rfl rfl rfl (htb _ q4) (htb _ q666) hd_M_in ⟨Nat.le_of_ble_eq_true rfl, Nat.le_of_ble_eq_true rfl⟩, (htb _ q667)⟩ ⟨ro_blind, ro_pre hN (hP.sub (ws' := []) [] rfl) (hK.sub (tys' := []) [] rfl)⟩ rfl rfl hl.1 rfl (lv_room (Nat.le_of_ble_eq_true rfl)) d_M_solve_6 ⟨Nat.le_of_ble_eq_true rfl, Nat.le_of_ble_eq_true rfl⟩) (fun r_1 hr_1 => ?_)
  subst hr_1
  refine nr_top (y := nI 1) (by rw [in_n (by omega) hlim (by omega)]; rfl) ?_
  refine nr_if_ne (tgt := 16) hx hb (by omega) d_M_solve_9 (by decide) (fun c_9 => ?_) (fun c_9 => by exfalso; omega)
  refine nr_iconst hx hb 0 d_M_solve_16 (by decide) ?_
  refine nr_iconst hx hb 0 d_M_solve_17 (by decide) ?_
  refine nr_iconst hx hb 0 d_M_solve_18 (by decide) ?_
  refine nr_iconst hx hb 0 d_M_solve_19 (by decide) ?_
  refine nr_callwi (wr := ([] : va_W)) (va_runV (As := [.int (nI 0), .int (nI 0), .int (nI 0), .int (nI 0)]) (rest := []) ⟨hx, hb, hml, hown, hts⟩ (c_M_throwing l D am cm P G X 0 0 0 0 (by decide) (by decide) (by decide) (by decide) H.size) ⟨callB_of 4 hts (gTB q_M_throwing) rfl rfl rfl (htb _ q4) (htb _ q669) hd_M_throwing ⟨Nat.le_of_ble_eq_true rfl, Nat.le_of_ble_eq_true rfl⟩, (htb _ q671), (htb _ sel_M_throwing)⟩ ⟨rw_blind, va_recv (hK.sub (tys' := []) [] rfl) hP (ci := 3) (q0 := 0) rfl rfl, rw_pre hN (hP.sub (ws' := (wM am cm P G X)) [0, 1, 2, 3, 4, 5, 6, 7, 8, 9, 10, 11, 12, 13, 14] rfl) (hK.sub (tys' := (tM cm)) [0, 1, 2, 3, 4, 5, 6, 7, 8, 9, 10, 11, 12, 13] rfl) (hD.sub (ws' := (wM am cm P G X)) [0, 1, 2, 3, 4, 5, 6, 7, 8, 9, 10, 11, 12, 13, 14] (by decide) rfl)⟩ rfl rfl hl.1 rfl (lv_room (Nat.le_of_ble_eq_true rfl)) d_M_solve_20 ⟨Nat.le_of_ble_eq_true rfl, Nat.le_of_ble_eq_true rfl⟩) hP hD hS hA [0, 1, 2, 3, 4, 5, 6, 7, 8, 9, 10, 11, 12, 13, 14] [] rfl rfl (by decide) (by decide) (fun r_2 u_2 H locs hr_2 hP hD hS => ?_)
  subst hr_2
  replace hP := hP.sub (ws' := wM am cm P G (up2 X 0 0 0)) [0, 1, 2, 3, 4, 5, 6, 7, 8, 9, 10, 11, 12, 13, 14] rfl
  replace hD := hD.sub (ws' := wM am cm P G (up2 X 0 0 0)) [0, 1, 2, 3, 4, 5, 6, 7, 8, 9, 10, 11, 12, 13, 14] (by decide) rfl
  refine nr_top (y := nI 0) rfl ?_
  refine nr_if_eq (tgt := 28) hx hb (by omega) d_M_solve_23 (by decide) (fun c_23 => ?_) (fun c_23 => by exfalso; omega)
  refine lv_aload_n hx hb d_M_solve_28 rfl (lv_at hl 0 rfl) ?_
  refine nr_iconst hx hb 1 d_M_solve_29 (by decide) ?_
  refine va_put (D := D) (ci := 3) (v := .int (nI 1)) (ty := .boolean) (C := R_M) (T := F_M) (N := 26) hx hb htb u_M t_M t_M_ok n_M hown hK hP hD hS 0 rfl rfl 23 (by decide) (htb _ q602) (fun _ h9 => h9) rfl (by decide +kernel) (nr_bool (by omega)) (nr_boolF (by omega)) (Nat.le_of_ble_eq_true rfl) d_M_solve_30 (fun H locs hP hD hS => ?_)
  replace hP : va_P D cls (wM am cm P G (up2 (up2 X 0 0 0) 0 1 1)) H := hP
  replace hD : va_D A (wM am cm P G (up2 (up2 X 0 0 0) 0 1 1)) := hD
  refine lv_aload_n hx hb d_M_solve_33 rfl (lv_at hl 0 rfl) ?_
  refine nr_iconst hx hb 0 d_M_solve_34 (by decide) ?_
  refine va_put (D := D) (ci := 3) (v := .int (nI 0)) (ty := .int) (C := R_M) (T := F_M) (N := 26) hx hb htb u_M t_M t_M_ok n_M hown hK hP hD hS 0 rfl rfl 24 (by decide) (htb _ q603) (fun _ h9 => h9) rfl (by decide +kernel) rfl rfl (Nat.le_of_ble_eq_true rfl) d_M_solve_35 (fun H locs hP hD hS => ?_)
  replace hP : va_P D cls (wM am cm P G (up2 (up2 (up2 X 0 0 0) 0 1 1) 0 2 0)) H := hP
  replace hD : va_D A (wM am cm P G (up2 (up2 (up2 X 0 0 0) 0 1 1) 0 2 0)) := hD
  refine lv_aload_n hx hb d_M_solve_38 rfl (lv_at hl 0 rfl) ?_
  refine nr_iconst hx hb 0 d_M_solve_39 (by decide) ?_
  refine va_put (D := D) (ci := 3) (v := .int (nI 0)) (ty := .int) (C := R_M) (T := F_M) (N := 26) hx hb htb u_M t_M t_M_ok n_M hown hK hP hD hS 0 rfl rfl 25 (by decide) (htb _ q604) (fun _ h9 => h9) rfl (by decide +kernel) rfl rfl (Nat.le_of_ble_eq_true rfl) d_M_solve_40 (fun H locs hP hD hS => ?_)
  replace hP : va_P D cls (wM am cm P G (up2 (up2 (up2 (up2 X 0 0 0) 0 1 1) 0 2 0) 0 3 0)) H := hP
  replace hD : va_D A (wM am cm P G (up2 (up2 (up2 (up2 X 0 0 0) 0 1 1) 0 2 0) 0 3 0)) := hD
  refine lv_aload_n hx hb d_M_solve_43 rfl (lv_at hl 0 rfl) ?_
  refine va_get (D := D) (ci := 3) (v := .int (nI (P 0 0))) (C := R_M) (T := F_M) (N := 26) hx hb htb u_M hown hK hP 0 rfl rfl 1 (by decide) (htb _ q580) (fun _ h9 => h9) rfl d_M_solve_44 ?_
  refine lv_aload_n hx hb d_M_solve_47 rfl (lv_at hl 0 rfl) ?_
  refine va_get (D := D) (ci := 3) (v := .int (nI (P 0 1))) (C := R_M) (T := F_M) (N := 26) hx hb htb u_M hown hK hP 0 rfl rfl 2 (by decide) (htb _ q581) (fun _ h9 => h9) rfl d_M_solve_48 ?_
  refine nr_imul hx hb d_M_solve_51 ?_
  refine nr_if_ne (tgt := 118) hx hb (by omega) d_M_solve_52 (by decide) (fun c_52 => by exfalso; omega) (fun c_52 => ?_)
  refine nr_iconst hx hb 1 d_M_solve_55 (by decide) ?_
  refine lv_istore_n (lv' := [(2, .int (nI 1)), (0, .ref (am 0)), (1, .int (nI lim))]) hx hb d_M_solve_56 rfl hl (by decide) rfl (fun ls hl => ?_)
  refine nr_iconst hx hb 0 d_M_solve_57 (by decide) ?_
  refine lv_istore_n (lv' := [(3, .int (nI 0)), (2, .int (nI 1)), (0, .ref (am 0)), (1, .int (nI lim))]) hx hb d_M_solve_58 rfl hl (by decide) rfl (fun ls hl => ?_)
  replace hl : ∃ k d b : Nat, (d + k = P 0 1) ∧ (b ≤ 1) ∧ ((b = 0 → needFault P (G 1) ≠ 0) ∧ (b ≠ 0 → nf P (G 1) k d = needFault P (G 1))) ∧ lv_has ls 4 [(0, .ref (am 0)), (1, .int (nI lim)), (2, .int (nI b)), (3, .int (nI d))] := ⟨P 0 1, 0, 1, Nat.zero_add _, Nat.le_refl 1, ⟨fun h => absurd h (by decide), fun _ => rfl⟩, lv_sub hl [2, 3, 1, 0] rfl⟩
  obtain ⟨k, d, b, hk, hb1, hres, hl⟩ := hl
  induction k generalizing d b ls with
  | zero =>
    refine lv_iload_n hx hb d_M_solve_59 rfl (lv_at hl 3 rfl) ?_
    refine lv_aload_n hx hb d_M_solve_60 rfl (lv_at hl 0 rfl) ?_
    refine va_get (D := D) (ci := 3) (v := .int (nI (P 0 1))) (C := R_M) (T := F_M) (N := 26) hx hb htb u_M hown hK hP 0 rfl rfl 2 (by decide) (htb _ q581) (fun _ h9 => h9) rfl d_M_solve_61 ?_
    refine nr_icmp_ge (tgt := 95) hx hb (by omega) (by omega) d_M_solve_64 (by decide) (fun c_64 => ?_) (fun c_64 => by exfalso; omega)
    refine lv_aload_n hx hb d_M_solve_95 rfl (lv_at hl 0 rfl) ?_
    refine lv_iload_n hx hb d_M_solve_96 rfl (lv_at hl 2 rfl) ?_
    refine nr_if_eq (tgt := 104) hx hb (by omega) d_M_solve_97 (by decide) (fun c_97 => ?_) (fun c_97 => ?_)
    · refine nr_iconst hx hb 0 d_M_solve_104 (by decide) ?_
      refine va_put (D := D) (ci := 3) (v := .int (nI 0)) (ty := .int) (C := R_M) (T := F_M) (N := 26) hx hb htb u_M t_M t_M_ok n_M hown hK hP hD hS 0 rfl rfl 25 (by decide) (htb _ q604) (fun _ h9 => h9) rfl (by decide +kernel) rfl rfl (Nat.le_of_ble_eq_true rfl) d_M_solve_105 (fun H locs hP hD hS => ?_)
      replace hP : va_P D cls (wM am cm P G (up2 (up2 (up2 (up2 (up2 X 0 0 0) 0 1 1) 0 2 0) 0 3 0) 0 3 0)) H := hP
      replace hD : va_D A (wM am cm P G (up2 (up2 (up2 (up2 (up2 X 0 0 0) 0 1 1) 0 2 0) 0 3 0) 0 3 0)) := hD
      refine lv_iload_n hx hb d_M_solve_108 rfl (lv_at hl 2 rfl) ?_
      refine nr_if_eq (tgt := 116) hx hb (by omega) d_M_solve_109 (by decide) (fun c_109 => ?_) (fun c_109 => by exfalso; omega)
      refine lv_iconst (v := -1) hx hb d_M_solve_116 (by decide) ?_
      have hF : slv P (G 1) (G 0 0) lim = (0, 0, 0, 0, G 1) := by rw [slv, if_pos hz, if_neg (hres.1 c_97)]
      have hsv : svG G (slv P (G 1) (G 0 0) lim) = G := by rw [hF]; rfl
      have hP : va_P D cls (wM am cm P (svG G (slv P (G 1) (G 0 0) lim)) (up2 (up2 (up2 (up2 (up2 X 0 0 0) 0 1 1) 0 2 0) 0 3 0) 0 3 0)) H := by rw [hsv]; exact hP
      have hD : va_D A (wM am cm P (svG G (slv P (G 1) (G 0 0) lim)) (up2 (up2 (up2 (up2 (up2 X 0 0 0) 0 1 1) 0 2 0) 0 3 0) 0 3 0)) := by rw [hsv]; exact hD
      exact W.iret (v := (-1)) hx hb hr (fun t ht hW => ⟨⟨_, up2 (up2 (up2 (up2 (up2 X 0 0 0) 0 1 1) 0 2 0) 0 3 0) 0 3 0, rfl, by rw [hF]; exact ⟨⟨Nat.zero_le _, Nat.le_refl 1, Nat.zero_le _, show (0 : Nat) ≤ 40000 by decide, hx1, hx2, hx3, hx4, hx5, hx6, hx7⟩, rfl, rfl, rfl, fun h => absurd h (Nat.lt_irrefl 0), fun _ => rfl, fun k hk => by funext j; simp [up2, show ¬ k = 0 by omega], rfl⟩, by rw [ht]; exact hP, hD⟩, hS.F ht⟩) hS.2.2 d_M_solve_117
    · refine nr_iconst hx hb 1 d_M_solve_100 (by decide) ?_
      refine lv_goto (tgt := 105) hx hb d_M_solve_101 (by decide) ?_
      refine va_put (D := D) (ci := 3) (v := .int (nI 1)) (ty := .int) (C := R_M) (T := F_M) (N := 26) hx hb htb u_M t_M t_M_ok n_M hown hK hP hD hS 0 rfl rfl 25 (by decide) (htb _ q604) (fun _ h9 => h9) rfl (by decide +kernel) rfl rfl (Nat.le_of_ble_eq_true rfl) d_M_solve_105 (fun H locs hP hD hS => ?_)
      replace hP : va_P D cls (wM am cm P G (up2 (up2 (up2 (up2 (up2 X 0 0 0) 0 1 1) 0 2 0) 0 3 0) 0 3 1)) H := hP
      replace hD : va_D A (wM am cm P G (up2 (up2 (up2 (up2 (up2 X 0 0 0) 0 1 1) 0 2 0) 0 3 0) 0 3 1)) := hD
      refine lv_iload_n hx hb d_M_solve_108 rfl (lv_at hl 2 rfl) ?_
      refine nr_if_eq (tgt := 116) hx hb (by omega) d_M_solve_109 (by decide) (fun c_109 => by exfalso; omega) (fun c_109 => ?_)
      refine nr_iconst hx hb 0 d_M_solve_112 (by decide) ?_
      refine lv_goto (tgt := 117) hx hb d_M_solve_113 (by decide) ?_
      have hF : slv P (G 1) (G 0 0) lim = (0, 0, 1, 0, G 1) := by rw [slv, if_pos hz, if_pos (show needFault P (G 1) = 0 by rw [← hres.2 c_97, nf])]
      have hsv : svG G (slv P (G 1) (G 0 0) lim) = G := by rw [hF]; exact upr_id
      have hP : va_P D cls (wM am cm P (svG G (slv P (G 1) (G 0 0) lim)) (up2 (up2 (up2 (up2 (up2 X 0 0 0) 0 1 1) 0 2 0) 0 3 0) 0 3 1)) H := by rw [hsv]; exact hP
      have hD : va_D A (wM am cm P (svG G (slv P (G 1) (G 0 0) lim)) (up2 (up2 (up2 (up2 (up2 X 0 0 0) 0 1 1) 0 2 0) 0 3 0) 0 3 1)) := by rw [hsv]; exact hD
      exact W.iret (v := (nI 0)) hx hb hr (fun t ht hW => ⟨⟨_, up2 (up2 (up2 (up2 (up2 X 0 0 0) 0 1 1) 0 2 0) 0 3 0) 0 3 1, rfl, by rw [hF]; exact ⟨⟨Nat.zero_le _, Nat.le_refl 1, Nat.zero_le _, show (1 : Nat) ≤ 40000 by decide, hx1, hx2, hx3, hx4, hx5, hx6, hx7⟩, rfl, rfl, rfl, fun _ => ⟨rfl, Nat.zero_le _⟩, fun h => absurd h Nat.one_ne_zero, fun k hk => by funext j; simp [up2, show ¬ k = 0 by omega], rfl⟩, by rw [ht]; exact hP, hD⟩, hS.F ht⟩) hS.2.2 d_M_solve_117
  | succ k ih_59 =>
    refine lv_iload_n hx hb d_M_solve_59 rfl (lv_at hl 3 rfl) ?_
    refine lv_aload_n hx hb d_M_solve_60 rfl (lv_at hl 0 rfl) ?_
    refine va_get (D := D) (ci := 3) (v := .int (nI (P 0 1))) (C := R_M) (T := F_M) (N := 26) hx hb htb u_M hown hK hP 0 rfl rfl 2 (by decide) (htb _ q581) (fun _ h9 => h9) rfl d_M_solve_61 ?_
    refine nr_icmp_ge (tgt := 95) hx hb (by omega) (by omega) d_M_solve_64 (by decide) (fun c_64 => by exfalso; omega) (fun c_64 => ?_)
    refine lv_iload_n hx hb d_M_solve_67 rfl (lv_at hl 2 rfl) ?_
    refine nr_if_eq (tgt := 87) hx hb (by omega) d_M_solve_68 (by decide) (fun c_68 => ?_) (fun c_68 => ?_)
    · refine nr_iconst hx hb 0 d_M_solve_87 (by decide) ?_
      refine lv_istore_n (lv' := [(2, .int (nI 0)), (0, .ref (am 0)), (1, .int (nI lim)), (3, .int (nI d))]) hx hb d_M_solve_88 rfl hl (by decide) rfl (fun ls hl => ?_)
      refine nr_iinc (k := 3) (lv' := [(3, .int (nI (d + 1))), (2, .int (nI 0)), (0, .ref (am 0)), (1, .int (nI lim))]) hx hb d_M_solve_89 hl rfl (by decide) rfl (fun ls hl => ?_)
      refine lv_goto (tgt := 59) hx hb d_M_solve_92 (by decide) ?_
      exact ih_59 _ _ _ (by omega) (by omega) ⟨fun _ => hres.1 c_68, fun h => absurd rfl h⟩ (lv_sub hl [2, 3, 1, 0] rfl)
    · refine lv_aload_n hx hb d_M_solve_71 rfl (lv_at hl 0 rfl) ?_
      refine lv_aload_n hx hb d_M_solve_72 rfl (lv_at hl 0 rfl) ?_
      refine va_get (D := D) (ci := 3) (v := .ref (am 3)) (C := R_M) (T := F_M) (N := 26) hx hb htb u_M hown hK hP 0 rfl rfl 6 (by decide) (htb _ q585) (fun _ h9 => h9) rfl d_M_solve_73 ?_
      refine lv_iload_n hx hb d_M_solve_76 rfl (lv_at hl 3 rfl) ?_
      refine nr_calli (va_runV (As := [.ref (am 3), .int (nI d)]) (rest := []) ⟨hx, hb, hml, hown, hts⟩ (c_M_areMet l D am cm P G (up2 (up2 (up2 (up2 X 0 0 0) 0 1 1) 0 2 0) 0 3 0) (am 3) (cm 2) (G 1) hP0 hG0 hXb hg1 d (by omega)) ⟨callB_of 2 hts (gTB q_M_areMet) rfl rfl rfl (htb _ q4) (htb _ q713) hd_M_areMet ⟨Nat.le_of_ble_eq_true rfl, Nat.le_of_ble_eq_true rfl⟩, (htb _ q715), (htb _ sel_M_areMet)⟩ ⟨ro_blind, va_recv (hK.sub (tys' := []) [] rfl) hP (ci := 3) (q0 := 0) rfl rfl, ro_pre hN (hP.sub (ws' := (wMS am cm P G (up2 (up2 (up2 (up2 X 0 0 0) 0 1 1) 0 2 0) 0 3 0) (am 3) (cm 2) (G 1))) [0, 1, 2, 3, 4, 5, 6, 7, 8, 9, 10, 11, 12, 13, 14, 3] rfl) (hK.sub (tys' := (tMS cm (cm 2))) [0, 1, 2, 3, 4, 5, 6, 7, 8, 9, 10, 11, 12, 13, 2] rfl)⟩ rfl rfl hl.1 rfl (lv_room (Nat.le_of_ble_eq_true rfl)) d_M_solve_77 ⟨Nat.le_of_ble_eq_true rfl, Nat.le_of_ble_eq_true rfl⟩) (fun r_4 hr_4 => ?_)
      subst hr_4
      refine nr_if_eq (tgt := 87) hx hb (by split <;> omega) d_M_solve_80 (by decide) (fun c_80 => ?_) (fun c_80 => ?_)
      · refine nr_iconst hx hb 0 d_M_solve_87 (by decide) ?_
        refine lv_istore_n (lv' := [(2, .int (nI 0)), (0, .ref (am 0)), (1, .int (nI lim)), (3, .int (nI d))]) hx hb d_M_solve_88 rfl hl (by decide) rfl (fun ls hl => ?_)
        refine nr_iinc (k := 3) (lv' := [(3, .int (nI (d + 1))), (2, .int (nI 0)), (0, .ref (am 0)), (1, .int (nI lim))]) hx hb d_M_solve_89 hl rfl (by decide) rfl (fun ls hl => ?_)
        refine lv_goto (tgt := 59) hx hb d_M_solve_92 (by decide) ?_
        exact ih_59 _ _ _ (by omega) (by omega) ⟨fun _ => by rw [← hres.2 c_68, nf, if_neg (fun h => by rw [if_pos h] at c_80; omega)]; omega, fun h => absurd rfl h⟩ (lv_sub hl [2, 3, 1, 0] rfl)
      · refine nr_iconst hx hb 1 d_M_solve_83 (by decide) ?_
        refine lv_goto (tgt := 88) hx hb d_M_solve_84 (by decide) ?_
        refine lv_istore_n (lv' := [(2, .int (nI 1)), (0, .ref (am 0)), (1, .int (nI lim)), (3, .int (nI d))]) hx hb d_M_solve_88 rfl hl (by decide) rfl (fun ls hl => ?_)
        refine nr_iinc (k := 3) (lv' := [(3, .int (nI (d + 1))), (2, .int (nI 1)), (0, .ref (am 0)), (1, .int (nI lim))]) hx hb d_M_solve_89 hl rfl (by decide) rfl (fun ls hl => ?_)
        refine lv_goto (tgt := 59) hx hb d_M_solve_92 (by decide) ?_
        exact ih_59 _ _ _ (by omega) (by omega) ⟨fun h => absurd h (by decide), fun _ => by rw [← hres.2 c_68, nf, if_pos (Decidable.byContradiction (fun h => by rw [if_neg h] at c_80; omega))]⟩ (lv_sub hl [2, 3, 1, 0] rfl)
set_option maxHeartbeats 4000000 in
set_option maxRecDepth 100000 in
theorem k_M_solve (l : Launch) (D : va_G) (am : Nat → Nat) (cm : Nat → ClassId) (P G X : Nat → Nat → Nat) (hP0 : okP P) (hG0 : okG G) (hX0 : okX X) (lim : Nat) (hlim : lim ≤ 20000) (hn : 0 < P 0 0) (hdd : 0 < P 0 1) (hut : ∀ tr d p, (∀ k, tr k ≤ 3) → p < P 0 0 → d < P 0 1 → utM P X tr (d * P 0 0 + p) = unm P tr d p) (hb0 : ∀ c, P 5 (c * 4) = 0) (sz : Nat) : Met l y_M_solve w_M_solve { frames := 4, cells := 0, slots := 0, locals := 102 } (rw_P [.ref (am 0), .int (nI lim)] D (wM am cm P G X) (tM cm) sz) (rw_Qi (fun (r : Int32) (u : Nat → Nat → Nat) => solM X u (slv P (G 1) (G 0 0) lim) r) D (wM am cm P G X) (fun u => wM am cm P (svG G (slv P (G 1) (G 0 0) lim)) u) sz) 0 0 (va_A (wM am cm P G X) sz) := by
  refine Met.ofW (cc := b_M_solve) (maxL := 4) (ret := (some .int)) (by decide) rfl ?_
  intro p e s m args below meth c s₁ B hml hv
  obtain ⟨rfl, hsz, hN, hP, hK, hD0⟩ := hv
  have hx := B.exec
  have hb := B.bytes
  have hr := B.returns
  have hts := atoms_spec (ws := w_M_solve) B.pre
  have htb : ∀ w ∈ TBG, w.before [.ref (am 0), .int (nI lim)].toArray s = true := fun w h => hts w (List.mem_cons_of_mem _ h)
  have hown : s.vm.findClass R_M = some m.cls := findClass_of_methodNamed B.named
  have hlocks := B.notSynchronized
  subst hsz
  have hD := hD0.self (sz := s.heap.size)
  unfold rw_Qi
  generalize hAe : va_A (wM am cm P G X) s.heap.size = A at hD ⊢
  have hA : ∀ q : Nat, s.heap.size ≤ q → A q := fun q h => by rw [← hAe]; exact Or.inr h
  have hS : va_S A s.heap s.heap [] := va_S.rf
  have hl := lv_entry ([.ref (am 0), .int (nI lim)]) (n := 4) (Nat.le_of_ble_eq_true rfl)
  rw [lg_entry_eq]
  generalize (lg_sl ([.ref (am 0), .int (nI lim)]) ++ List.replicate (4 - (lg_sl ([.ref (am 0), .int (nI lim)])).length) Slot.unset).toArray = ls at hl ⊢
  have hl : lv_has ls 4 [(0, .ref (am 0)), (1, .int (nI lim))] := hl
  refine nr_start hP hS (fun H locs hP hS => ?_)
  obtain ⟨h00, h01, h02, h03, h04, h05, hp1, hp2, hp3, hp4, hp5, hp6⟩ := id hP0
  obtain ⟨k00, k01, hg1, hg2⟩ := id hG0
  obtain ⟨x00, x01, x02, x03, hx1, hx2, hx3, hx4, hx5, hx6, hx7⟩ := id hX0
  have hmn : P 0 0 * P 0 1 ≤ 6 * 7 := Nat.mul_le_mul h00 h01
  have hmp : 0 < P 0 0 * P 0 1 := Nat.mul_pos hn hdd
  refine lv_aload_n hx hb d_M_solve_0 rfl (lv_at hl 0 rfl) ?_
  refine lv_iload_n hx hb d_M_solve_1 rfl (lv_at hl 1 rfl) ?_
  refine nr_iconst hx hb 0 d_M_solve_2 (by decide) ?_
  refine nr_sipush hx hb 20000 d_M_solve_3 (by decide) ?_
  refine nr_calli (va_runS (As := [.int (nI lim), .int (nI 0), .int (nI 20000)]) (rest := [.ref (am 0)]) ⟨hx, hb, hml, hown, hts⟩ (c_M_in l D (nI lim) (nI 0) (nI 20000)) ⟨callB_of 3 hts (gTB q_M_in) rfl rfl rfl (htb _ q4) (htb _ q666) hd_M_in ⟨Nat.le_of_ble_eq_true rfl, Nat.le_of_ble_eq_true rfl⟩, (htb _ q667)⟩ ⟨ro_blind, ro_pre hN (hP.sub (ws' := []) [] rfl) (hK.sub (tys' := []) [] rfl)⟩ rfl rfl hl.1 rfl (lv_room (Nat.le_of_ble_eq_true rfl)) d_M_solve_6 ⟨Nat.le_of_ble_eq_true rfl, Nat.le_of_ble_eq_true rfl⟩) (fun r_1 hr_1 => ?_)
  subst hr_1
  refine nr_top (y := nI 1) (by rw [in_n (by omega) hlim (by omega)]; rfl) ?_
  refine nr_if_ne (tgt := 16) hx hb (by omega) d_M_solve_9 (by decide) (fun c_9 => ?_) (fun c_9 => by exfalso; omega)
  refine nr_iconst hx hb 0 d_M_solve_16 (by decide) ?_
  refine nr_iconst hx hb 0 d_M_solve_17 (by decide) ?_
  refine nr_iconst hx hb 0 d_M_solve_18 (by decide) ?_
  refine nr_iconst hx hb 0 d_M_solve_19 (by decide) ?_
  refine nr_callwi (wr := ([] : va_W)) (va_runV (As := [.int (nI 0), .int (nI 0), .int (nI 0), .int (nI 0)]) (rest := []) ⟨hx, hb, hml, hown, hts⟩ (c_M_throwing l D am cm P G X 0 0 0 0 (by decide) (by decide) (by decide) (by decide) H.size) ⟨callB_of 4 hts (gTB q_M_throwing) rfl rfl rfl (htb _ q4) (htb _ q669) hd_M_throwing ⟨Nat.le_of_ble_eq_true rfl, Nat.le_of_ble_eq_true rfl⟩, (htb _ q671), (htb _ sel_M_throwing)⟩ ⟨rw_blind, va_recv (hK.sub (tys' := []) [] rfl) hP (ci := 3) (q0 := 0) rfl rfl, rw_pre hN (hP.sub (ws' := (wM am cm P G X)) [0, 1, 2, 3, 4, 5, 6, 7, 8, 9, 10, 11, 12, 13, 14] rfl) (hK.sub (tys' := (tM cm)) [0, 1, 2, 3, 4, 5, 6, 7, 8, 9, 10, 11, 12, 13] rfl) (hD.sub (ws' := (wM am cm P G X)) [0, 1, 2, 3, 4, 5, 6, 7, 8, 9, 10, 11, 12, 13, 14] (by decide) rfl)⟩ rfl rfl hl.1 rfl (lv_room (Nat.le_of_ble_eq_true rfl)) d_M_solve_20 ⟨Nat.le_of_ble_eq_true rfl, Nat.le_of_ble_eq_true rfl⟩) hP hD hS hA [0, 1, 2, 3, 4, 5, 6, 7, 8, 9, 10, 11, 12, 13, 14] [] rfl rfl (by decide) (by decide) (fun r_2 u_2 H locs hr_2 hP hD hS => ?_)
  subst hr_2
  replace hP := hP.sub (ws' := wM am cm P G (up2 X 0 0 0)) [0, 1, 2, 3, 4, 5, 6, 7, 8, 9, 10, 11, 12, 13, 14] rfl
  replace hD := hD.sub (ws' := wM am cm P G (up2 X 0 0 0)) [0, 1, 2, 3, 4, 5, 6, 7, 8, 9, 10, 11, 12, 13, 14] (by decide) rfl
  refine nr_top (y := nI 0) rfl ?_
  refine nr_if_eq (tgt := 28) hx hb (by omega) d_M_solve_23 (by decide) (fun c_23 => ?_) (fun c_23 => by exfalso; omega)
  refine lv_aload_n hx hb d_M_solve_28 rfl (lv_at hl 0 rfl) ?_
  refine nr_iconst hx hb 1 d_M_solve_29 (by decide) ?_
  refine va_put (D := D) (ci := 3) (v := .int (nI 1)) (ty := .boolean) (C := R_M) (T := F_M) (N := 26) hx hb htb u_M t_M t_M_ok n_M hown hK hP hD hS 0 rfl rfl 23 (by decide) (htb _ q602) (fun _ h9 => h9) rfl (by decide +kernel) (nr_bool (by omega)) (nr_boolF (by omega)) (Nat.le_of_ble_eq_true rfl) d_M_solve_30 (fun H locs hP hD hS => ?_)
  replace hP : va_P D cls (wM am cm P G (up2 (up2 X 0 0 0) 0 1 1)) H := hP
  replace hD : va_D A (wM am cm P G (up2 (up2 X 0 0 0) 0 1 1)) := hD
  refine lv_aload_n hx hb d_M_solve_33 rfl (lv_at hl 0 rfl) ?_
  refine nr_iconst hx hb 0 d_M_solve_34 (by decide) ?_
  refine va_put (D := D) (ci := 3) (v := .int (nI 0)) (ty := .int) (C := R_M) (T := F_M) (N := 26) hx hb htb u_M t_M t_M_ok n_M hown hK hP hD hS 0 rfl rfl 24 (by decide) (htb _ q603) (fun _ h9 => h9) rfl (by decide +kernel) rfl rfl (Nat.le_of_ble_eq_true rfl) d_M_solve_35 (fun H locs hP hD hS => ?_)
  replace hP : va_P D cls (wM am cm P G (up2 (up2 (up2 X 0 0 0) 0 1 1) 0 2 0)) H := hP
  replace hD : va_D A (wM am cm P G (up2 (up2 (up2 X 0 0 0) 0 1 1) 0 2 0)) := hD
  refine lv_aload_n hx hb d_M_solve_38 rfl (lv_at hl 0 rfl) ?_
  refine nr_iconst hx hb 0 d_M_solve_39 (by decide) ?_
  refine va_put (D := D) (ci := 3) (v := .int (nI 0)) (ty := .int) (C := R_M) (T := F_M) (N := 26) hx hb htb u_M t_M t_M_ok n_M hown hK hP hD hS 0 rfl rfl 25 (by decide) (htb _ q604) (fun _ h9 => h9) rfl (by decide +kernel) rfl rfl (Nat.le_of_ble_eq_true rfl) d_M_solve_40 (fun H locs hP hD hS => ?_)
  replace hP : va_P D cls (wM am cm P G (up2 (up2 (up2 (up2 X 0 0 0) 0 1 1) 0 2 0) 0 3 0)) H := hP
  replace hD : va_D A (wM am cm P G (up2 (up2 (up2 (up2 X 0 0 0) 0 1 1) 0 2 0) 0 3 0)) := hD
  refine lv_aload_n hx hb d_M_solve_43 rfl (lv_at hl 0 rfl) ?_
  refine va_get (D := D) (ci := 3) (v := .int (nI (P 0 0))) (C := R_M) (T := F_M) (N := 26) hx hb htb u_M hown hK hP 0 rfl rfl 1 (by decide) (htb _ q580) (fun _ h9 => h9) rfl d_M_solve_44 ?_
  refine lv_aload_n hx hb d_M_solve_47 rfl (lv_at hl 0 rfl) ?_
  refine va_get (D := D) (ci := 3) (v := .int (nI (P 0 1))) (C := R_M) (T := F_M) (N := 26) hx hb htb u_M hown hK hP 0 rfl rfl 2 (by decide) (htb _ q581) (fun _ h9 => h9) rfl d_M_solve_48 ?_
  refine nr_imul hx hb d_M_solve_51 ?_
  refine nr_if_ne (tgt := 118) hx hb (by omega) d_M_solve_52 (by decide) (fun c_52 => ?_) (fun c_52 => by exfalso; omega)
  refine nr_iconst hx hb 0 d_M_solve_118 (by decide) ?_
  refine lv_istore_n (lv' := [(2, .int (nI 0)), (0, .ref (am 0)), (1, .int (nI lim))]) hx hb d_M_solve_119 rfl hl (by decide) rfl (fun ls hl => ?_)
  replace hP : ∃ (k i : Nat) (X1 : Nat → Nat → Nat), (i + k = 42) ∧ (∀ j, j < i → X1 1 j = 0) ∧ (∀ r, r ≠ 1 → X1 r = (up2 (up2 (up2 (up2 X 0 0 0) 0 1 1) 0 2 0) 0 3 0) r) ∧ lv_has ls 4 [(0, .ref (am 0)), (1, .int (nI lim)), (2, .int (nI i))] ∧ va_P D cls (wM am cm P G X1) H ∧ va_D A (wM am cm P G X1) ∧ va_S A s.heap H locs := ⟨42, 0, up2 (up2 (up2 (up2 X 0 0 0) 0 1 1) 0 2 0) 0 3 0, rfl, fun j h => absurd h (Nat.not_lt_zero j), fun _ _ => rfl, lv_sub hl [1, 2, 0] rfl, hP, hD, hS⟩
  clear hl hD hS
  obtain ⟨k, i, X1, hk, hf, hrr, hl, hP, hD, hS⟩ := hP
  induction k generalizing i X1 ls H locs with
  | zero =>
    refine lv_iload_n hx hb d_M_solve_120 rfl (lv_at hl 2 rfl) ?_
    refine nr_bipush hx hb 42 d_M_solve_121 (by decide) ?_
    refine nr_icmp_ge (tgt := 139) hx hb (by omega) (by omega) d_M_solve_123 (by decide) (fun c_123 => ?_) (fun c_123 => by exfalso; omega)
    have h8 := nr_swap (q0 := 4) (g := fun _ => nI 0) hP hD rfl (fun j hj => by rw [hf j (by omega)])
    clear hP hD
    obtain ⟨hP, hD⟩ := h8
    have e0 := hrr 0 (by decide)
    have e2 := hrr 2 (by decide)
    have e3 := hrr 3 (by decide)
    have e4 := hrr 4 (by decide)
    have e5 := hrr 5 (by decide)
    have e6 := hrr 6 (by decide)
    have e7 := hrr 7 (by decide)
    replace hP : va_P D cls (wM am cm P G (upr (up2 (up2 (up2 (up2 X 0 0 0) 0 1 1) 0 2 0) 0 3 0) 1 (fun _ => 0))) H := by have h9 := hP; simp only [wM, List.set, e0, e2, e3, e4, e5, e6, e7] at h9; exact h9
    replace hD : va_D A (wM am cm P G (upr (up2 (up2 (up2 (up2 X 0 0 0) 0 1 1) 0 2 0) 0 3 0) 1 (fun _ => 0))) := by have h9 := hD; simp only [wM, List.set, e0, e2, e3, e4, e5, e6, e7] at h9; exact h9
    have y0 : (upr (up2 (up2 (up2 (up2 X 0 0 0) 0 1 1) 0 2 0) 0 3 0) 1 (fun _ => 0)) 0 0 = 0 := rfl
    have y1 : (upr (up2 (up2 (up2 (up2 X 0 0 0) 0 1 1) 0 2 0) 0 3 0) 1 (fun _ => 0)) 0 1 = 1 := rfl
    have y2 : (upr (up2 (up2 (up2 (up2 X 0 0 0) 0 1 1) 0 2 0) 0 3 0) 1 (fun _ => 0)) 0 2 = 0 := rfl
    have y3 : (upr (up2 (up2 (up2 (up2 X 0 0 0) 0 1 1) 0 2 0) 0 3 0) 1 (fun _ => 0)) 0 3 = 0 := rfl
    have yt : (upr (up2 (up2 (up2 (up2 X 0 0 0) 0 1 1) 0 2 0) 0 3 0) 1 (fun _ => 0)) 1 = fun _ => 0 := rfl
    have yr : ∀ r, 3 ≤ r → (upr (up2 (up2 (up2 (up2 X 0 0 0) 0 1 1) 0 2 0) 0 3 0) 1 (fun _ => 0)) r = X r := fun r hr => by funext k; simp [upr, up2, show ¬ r = 1 by omega, show ¬ r = 0 by omega]
    have yo : okX (upr (up2 (up2 (up2 (up2 X 0 0 0) 0 1 1) 0 2 0) 0 3 0) 1 (fun _ => 0)) := ⟨Nat.zero_le _, Nat.le_refl 1, Nat.zero_le _, Nat.zero_le _, fun _ => Nat.zero_le _, hx2, hx3, hx4, hx5, hx6, hx7⟩
    clear hf hrr e0 e2 e3 e4 e5 e6 e7
    generalize hYe : upr (up2 (up2 (up2 (up2 X 0 0 0) 0 1 1) 0 2 0) 0 3 0) 1 (fun _ => 0) = Y at hP hD y0 y1 y2 y3 yt yr yo
    clear hYe
    refine lv_aload_n hx hb d_M_solve_139 rfl (lv_at hl 0 rfl) ?_
    refine lv_iload_n hx hb d_M_solve_140 rfl (lv_at hl 1 rfl) ?_
    refine nr_callwi (wr := ([] : va_W)) (va_runV (As := [.int (nI lim)]) (rest := []) ⟨hx, hb, hml, hown, hts⟩ (c_M_search l D am cm P G Y hP0 hG0 yo lim hlim hn hdd y1 y2 y3 yt (fun tr d p h1 h2 h3 => (utM_congr yr).trans (hut tr d p h1 h2 h3)) hb0 H.size) ⟨callB_of 1 hts (gTB q_M_search) rfl rfl rfl (htb _ q4) (htb _ q721) hd_M_search ⟨Nat.le_of_ble_eq_true rfl, Nat.le_of_ble_eq_true rfl⟩, (htb _ q723), (htb _ sel_M_search)⟩ ⟨rw_blind, va_recv (hK.sub (tys' := []) [] rfl) hP (ci := 3) (q0 := 0) rfl rfl, rw_pre hN (hP.sub (ws' := (wM am cm P G Y)) [0, 1, 2, 3, 4, 5, 6, 7, 8, 9, 10, 11, 12, 13, 14] rfl) (hK.sub (tys' := (tM cm)) [0, 1, 2, 3, 4, 5, 6, 7, 8, 9, 10, 11, 12, 13] rfl) (hD.sub (ws' := (wM am cm P G Y)) [0, 1, 2, 3, 4, 5, 6, 7, 8, 9, 10, 11, 12, 13, 14] (by decide) rfl)⟩ rfl rfl hl.1 rfl (lv_room (Nat.le_of_ble_eq_true rfl)) d_M_solve_141 ⟨Nat.le_of_ble_eq_true rfl, Nat.le_of_ble_eq_true rfl⟩) hP hD hS hA [0, 1, 2, 3, 4, 5, 6, 7, 8, 9, 10, 11, 12, 13, 14] [] rfl rfl (by decide) (by decide) (fun r_4 u_4 H locs hr_4 hP hD hS => ?_)
    replace hP := hP.sub (ws' := wM am cm P G u_4) [0, 1, 2, 3, 4, 5, 6, 7, 8, 9, 10, 11, 12, 13, 14] rfl
    replace hD := hD.sub (ws' := wM am cm P G u_4) [0, 1, 2, 3, 4, 5, 6, 7, 8, 9, 10, 11, 12, 13, 14] (by decide) rfl
    refine lv_istore_n (lv' := [(2, .int r_4), (0, .ref (am 0)), (1, .int (nI lim))]) hx hb d_M_solve_144 rfl hl (by decide) rfl (fun ls hl => ?_)
    obtain ⟨o1, o2, o3, o4, o5, o6, o7, o8⟩ := hr_4
    have hsl : slv P (G 1) (G 0 0) lim = srch P (G 1) (G 0 0) lim 40002 0 0 0 0 0 0 (fun _ => 0) (fun _ => 0) := by rw [slv, if_neg (by omega)]
    rw [← hsl] at o2 o3 o4 o5 o6
    rcases Nat.eq_zero_or_pos (slv P (G 1) (G 0 0) lim).2.2.1 with hz | hz
    · have hm := o6 hz
      subst hm
      refine nr_iconst hx hb 0 d_M_solve_145 (by decide) ?_
      refine lv_istore_n (lv' := [(3, .int (nI 0)), (2, .int (-1)), (0, .ref (am 0)), (1, .int (nI lim))]) hx hb d_M_solve_146 rfl hl (by decide) rfl (fun ls hl => ?_)
      refine lv_iload_n hx hb d_M_solve_147 rfl (lv_at hl 0 rfl) ?_
      refine nr_bipush hx hb 42 d_M_solve_148 (by decide) ?_
      refine nr_icmp_ge (tgt := 175) hx hb (by omega) (by omega) d_M_solve_150 (by decide) (fun c_150 => by exfalso; omega) (fun c_150 => ?_)
      refine lv_iload_n hx hb d_M_solve_153 rfl (lv_at hl 1 rfl) ?_
      refine lv_if_lt (tgt := 175) hx hb d_M_solve_154 (by decide) (fun c_154 => ?_) (fun c_154 => absurd (by decide) c_154)
      refine lv_iload_n hx hb d_M_solve_175 rfl (lv_at hl 1 rfl) ?_
      have hsv : svG G (slv P (G 1) (G 0 0) lim) = G := by unfold svG; rw [if_neg (by omega)]
      have hP : va_P D cls (wM am cm P (svG G (slv P (G 1) (G 0 0) lim)) u_4) H := by rw [hsv]; exact hP
      have hD : va_D A (wM am cm P (svG G (slv P (G 1) (G 0 0) lim)) u_4) := by rw [hsv]; exact hD
      exact W.iret (v := (-1)) hx hb hr (fun t ht hW => ⟨⟨_, u_4, rfl, ⟨o1, o2, o3, o4, fun h => absurd h (by omega), fun _ => rfl, fun k hk => (o7 k hk).trans (yr k hk), o8.trans y0⟩, by rw [ht]; exact hP, hD⟩, hS.F ht⟩) hS.2.2 d_M_solve_176
    · obtain ⟨hrv, hbe, hle⟩ := o5 hz
      obtain ⟨lv, hlv⟩ : ∃ lv, lv = (slv P (G 1) (G 0 0) lim).2.2.2.1 := ⟨_, rfl⟩
      rw [← hlv] at hrv hle
      subst hrv
      refine nr_iconst hx hb 0 d_M_solve_145 (by decide) ?_
      refine lv_istore_n (lv' := [(3, .int (nI 0)), (2, .int (nI lv)), (0, .ref (am 0)), (1, .int (nI lim))]) hx hb d_M_solve_146 rfl hl (by decide) rfl (fun ls hl => ?_)
      replace hP : ∃ (k2 i : Nat) (G1 : Nat → Nat → Nat), (i + k2 = 42) ∧ (∀ j, j < i → G1 1 j = u_4 2 j) ∧ (∀ r, r ≠ 1 → G1 r = G r) ∧ lv_has ls 4 [(0, .ref (am 0)), (1, .int (nI lim)), (2, .int (nI lv)), (3, .int (nI i))] ∧ va_P D cls (wM am cm P G1 u_4) H ∧ va_D A (wM am cm P G1 u_4) ∧ va_S A s.heap H locs := ⟨42, 0, G, rfl, fun j h => absurd h (Nat.not_lt_zero j), fun _ _ => rfl, lv_sub hl [2, 3, 1, 0] rfl, hP, hD, hS⟩
      clear hl hD hS
      obtain ⟨k2, i, G1, hk2, hcp, hrr, hl, hP, hD, hS⟩ := hP
      induction k2 generalizing i G1 ls H locs with
      | zero =>
        refine lv_iload_n hx hb d_M_solve_147 rfl (lv_at hl 3 rfl) ?_
        refine nr_bipush hx hb 42 d_M_solve_148 (by decide) ?_
        refine nr_icmp_ge (tgt := 175) hx hb (by omega) (by omega) d_M_solve_150 (by decide) (fun c_150 => ?_) (fun c_150 => by exfalso; omega)
        have h8 := nr_swap (q0 := 3) (g := fun k => nI (u_4 2 k)) hP hD rfl (fun j hj => by rw [hcp j (by omega)])
        clear hP hD
        obtain ⟨hP, hD⟩ := h8
        have e0 := hrr 0 (by decide)
        have e2 := hrr 2 (by decide)
        replace hP : va_P D cls (wM am cm P (upr G 1 (u_4 2)) u_4) H := by have h9 := hP; simp only [wM, List.set, e0, e2] at h9; exact h9
        replace hD : va_D A (wM am cm P (upr G 1 (u_4 2)) u_4) := by have h9 := hD; simp only [wM, List.set, e0, e2] at h9; exact h9
        refine lv_iload_n hx hb d_M_solve_175 rfl (lv_at hl 2 rfl) ?_
        have hsv : svG G (slv P (G 1) (G 0 0) lim) = upr G 1 (u_4 2) := by unfold svG; rw [if_pos hz, hbe, hsl]
        have hP : va_P D cls (wM am cm P (svG G (slv P (G 1) (G 0 0) lim)) u_4) H := by rw [hsv]; exact hP
        have hD : va_D A (wM am cm P (svG G (slv P (G 1) (G 0 0) lim)) u_4) := by rw [hsv]; exact hD
        exact W.iret (v := (nI lv)) hx hb hr (fun t ht hW => ⟨⟨_, u_4, rfl, ⟨o1, o2, o3, o4, fun _ => ⟨by rw [← hlv], by rw [← hlv]; exact hle⟩, fun h => absurd h (by omega), fun k hk => (o7 k hk).trans (yr k hk), o8.trans y0⟩, by rw [ht]; exact hP, hD⟩, hS.F ht⟩) hS.2.2 d_M_solve_176
      | succ k2 ih_147 =>
        refine lv_iload_n hx hb d_M_solve_147 rfl (lv_at hl 3 rfl) ?_
        refine nr_bipush hx hb 42 d_M_solve_148 (by decide) ?_
        refine nr_icmp_ge (tgt := 175) hx hb (by omega) (by omega) d_M_solve_150 (by decide) (fun c_150 => by exfalso; omega) (fun c_150 => ?_)
        refine lv_iload_n hx hb d_M_solve_153 rfl (lv_at hl 2 rfl) ?_
        refine nr_if_lt (tgt := 175) hx hb (by omega) d_M_solve_154 (by decide) (fun c_154 => c_154.elim) (fun c_154 => ?_)
        refine lv_aload_n hx hb d_M_solve_157 rfl (lv_at hl 0 rfl) ?_
        refine va_get (D := D) (ci := 3) (v := .ref (am 3)) (C := R_M) (T := F_M) (N := 26) hx hb htb u_M hown hK hP 0 rfl rfl 6 (by decide) (htb _ q585) (fun _ h9 => h9) rfl d_M_solve_158 ?_
        refine lv_iload_n hx hb d_M_solve_161 rfl (lv_at hl 3 rfl) ?_
        refine lv_aload_n hx hb d_M_solve_162 rfl (lv_at hl 0 rfl) ?_
        refine va_get (D := D) (ci := 3) (v := .ref (am 5)) (C := R_M) (T := F_M) (N := 26) hx hb htb u_M hown hK hP 0 rfl rfl 8 (by decide) (htb _ q587) (fun _ h9 => h9) rfl d_M_solve_163 ?_
        refine lv_iload_n hx hb d_M_solve_166 rfl (lv_at hl 3 rfl) ?_
        refine nr_iald hx hb hK hP 5 4 rfl rfl (by omega) (by decide) d_M_solve_167 ?_
        refine nr_iast hx hb hK hP hD hS 3 2 rfl rfl (by omega) (by decide) d_M_solve_168 (fun H locs hP hD hS => ?_)
        replace hP : va_P D cls (wM am cm P (up2 G1 1 i (u_4 2 i)) u_4) H := hP
        replace hD : va_D A (wM am cm P (up2 G1 1 i (u_4 2 i)) u_4) := hD
        refine nr_iinc (k := 3) (lv' := [(3, .int (nI (i + 1))), (0, .ref (am 0)), (1, .int (nI lim)), (2, .int (nI lv))]) hx hb d_M_solve_169 hl rfl (by decide) rfl (fun ls hl => ?_)
        refine lv_goto (tgt := 147) hx hb d_M_solve_172 (by decide) ?_
        exact ih_147 _ _ _ _ _ (by omega) (fun j h => by show (if j = i then u_4 2 i else G1 1 j) = u_4 2 j; split; (rename_i hj; rw [hj]); exact hcp j (by omega)) (fun r h => by rw [← hrr r h]; funext k; simp [up2, h]) (lv_sub hl [1, 2, 3, 0] rfl) hP hD hS
  | succ k ih_120 =>
    refine lv_iload_n hx hb d_M_solve_120 rfl (lv_at hl 2 rfl) ?_
    refine nr_bipush hx hb 42 d_M_solve_121 (by decide) ?_
    refine nr_icmp_ge (tgt := 139) hx hb (by omega) (by omega) d_M_solve_123 (by decide) (fun c_123 => by exfalso; omega) (fun c_123 => ?_)
    refine lv_aload_n hx hb d_M_solve_126 rfl (lv_at hl 0 rfl) ?_
    refine va_get (D := D) (ci := 3) (v := .ref (am 4)) (C := R_M) (T := F_M) (N := 26) hx hb htb u_M hown hK hP 0 rfl rfl 7 (by decide) (htb _ q586) (fun _ h9 => h9) rfl d_M_solve_127 ?_
    refine lv_iload_n hx hb d_M_solve_130 rfl (lv_at hl 2 rfl) ?_
    refine nr_iconst hx hb 0 d_M_solve_131 (by decide) ?_
    refine nr_iast hx hb hK hP hD hS 4 3 rfl rfl (by omega) (by decide) d_M_solve_132 (fun H locs hP hD hS => ?_)
    replace hP : va_P D cls (wM am cm P G (up2 X1 1 i 0)) H := hP
    replace hD : va_D A (wM am cm P G (up2 X1 1 i 0)) := hD
    refine nr_iinc (k := 2) (lv' := [(2, .int (nI (i + 1))), (0, .ref (am 0)), (1, .int (nI lim))]) hx hb d_M_solve_133 hl rfl (by decide) rfl (fun ls hl => ?_)
    refine lv_goto (tgt := 120) hx hb d_M_solve_136 (by decide) ?_
    exact ih_120 _ _ _ _ _ (by omega) (fun j h => by show (if j = i then 0 else X1 1 j) = 0; split; rfl; exact hf j (by omega)) (fun r h => by rw [← hrr r h]; funext k; simp [up2, h]) (lv_sub hl [1, 2, 0] rfl) hP hD hS

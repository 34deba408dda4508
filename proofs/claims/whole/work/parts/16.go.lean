set_option maxHeartbeats 4000000 in
set_option maxRecDepth 100000 in
theorem c_S_goThrough (l : Launch) (D : va_G) (ad : Nat → Nat) (ca : Nat → ClassId) (P S : Nat → Nat → Nat) (a : Nat) (cS : ClassId) (ro : Nat → Nat) (hP0 : okP P) (hS0 : okS S) (hro : ∀ k, ro k ≤ 3) (hn : 0 < P 0 0) (hdd : 0 < P 0 1) (h2 : S 2 = ro) (z02 : S 0 2 = 0) (z03 : S 0 3 = 0) (z04 : S 0 4 = 2001) (h05z : S 0 5 = 0) (hout : ∀ k, ¬ (k % 6 < P 0 0 ∧ k / 6 < P 0 1) → ro k = 0) (hcap : ∀ (t : Nat → Nat) (e q : Nat), (∀ k, t k ≤ 3) → q < P 0 0 → e < P 0 1 → unm P t e q ≤ 2000) (sz : Nat) : Met l y_S_goThrough w_S_goThrough { frames := 4, cells := 0, slots := 0, locals := 95 } (rw_P [.ref (ad 2), .ref a] D (wSP ad ca P S a cS ro) (tSP ca cS) sz) (rw_Qv (fun u : Nat → Nat → Nat => goneS u (srch P ro (S 0 1) (S 0 0) 40002 0 0 0 0 0 0 (fun _ => 0) (fun _ => 0))) D (wSP ad ca P S a cS ro) (fun u => wSP ad ca P u a cS ro) sz) 0 0 (va_A (wSP ad ca P S a cS ro) sz) := by
  refine Met.ofW (cc := b_S_goThrough) (maxL := 7) (ret := none) (by decide) rfl ?_
  intro p e s m args below meth c s₁ B hml hv
  obtain ⟨rfl, hsz, hN, hP, hK, hD0⟩ := hv
  have hx := B.exec
  have hb := B.bytes
  have hr := B.returns
  have hts := atoms_spec (ws := w_S_goThrough) B.pre
  have htb : ∀ w ∈ TBG, w.before [.ref (ad 2), .ref a].toArray s = true := fun w h => hts w (List.mem_cons_of_mem _ h)
  have hown : s.vm.findClass R_S = some m.cls := findClass_of_methodNamed B.named
  have hlocks := B.notSynchronized
  subst hsz
  have hD := hD0.self (sz := s.heap.size)
  unfold rw_Qv
  generalize hAe : va_A (wSP ad ca P S a cS ro) s.heap.size = A at hD ⊢
  have hA : ∀ q : Nat, s.heap.size ≤ q → A q := fun q h => by rw [← hAe]; exact Or.inr h
  have hS : va_S A s.heap s.heap [] := va_S.rf
  have hl := lv_entry ([.ref (ad 2), .ref a]) (n := 7) (Nat.le_of_ble_eq_true rfl)
  rw [lg_entry_eq]
  generalize (lg_sl ([.ref (ad 2), .ref a]) ++ List.replicate (7 - (lg_sl ([.ref (ad 2), .ref a])).length) Slot.unset).toArray = ls at hl ⊢
  have hl : lv_has ls 7 [(0, .ref (ad 2)), (1, .ref a)] := hl
  refine nr_start hP hS (fun H locs hP hS => ?_)
  obtain ⟨h00, h01, h02, h03, h04, h05, hp1, hp2, hp3, hp4, hp5, hp6⟩ := id hP0
  obtain ⟨g00, g01, g02, g03, g04, g05, g06, hs1, hs2, hs3, hs4, hs5, hs6, hs7⟩ := id hS0
  refine nr_iconst hx hb 0 d_S_goThrough_0 (by decide) ?_
  refine lv_istore_n (lv' := [(2, .int (nI 0)), (0, .ref (ad 2)), (1, .ref a)]) hx hb d_S_goThrough_1 rfl hl (by decide) rfl (fun ls hl => ?_)
  refine nr_iconst hx hb 0 d_S_goThrough_2 (by decide) ?_
  refine lv_istore_n (lv' := [(3, .int (nI 0)), (2, .int (nI 0)), (0, .ref (ad 2)), (1, .ref a)]) hx hb d_S_goThrough_3 rfl hl (by decide) rfl (fun ls hl => ?_)
  refine lv_aload_n hx hb d_S_goThrough_4 rfl (lv_at hl 2 rfl) ?_
  refine lv_aload_n hx hb d_S_goThrough_5 rfl (lv_at hl 3 rfl) ?_
  refine lv_iload_n hx hb d_S_goThrough_6 rfl (lv_at hl 0 rfl) ?_
  refine lv_iload_n hx hb d_S_goThrough_7 rfl (lv_at hl 1 rfl) ?_
  refine nr_callv (wr := ([] : va_W)) (va_runV (As := [.ref a, .int (nI 0), .int (nI 0)]) (rest := []) ⟨hx, hb, hml, hown, hts⟩ (c_S_open l D ad ca P S a cS ro hP0 hS0 hro 0 0 (by omega) (by omega) H.size) ⟨callB_of 3 hts (gTB q_S_open) rfl rfl rfl (htb _ q3) (htb _ q485) hd_S_open ⟨Nat.le_of_ble_eq_true rfl, Nat.le_of_ble_eq_true rfl⟩, (htb _ q487), (htb _ sel_S_open)⟩ ⟨rw_blind, va_recv (hK.sub (tys' := []) [] rfl) hP (ci := 1) (q0 := 7) rfl rfl, rw_pre hN (hP.sub (ws' := (wSP ad ca P S a cS ro)) [0, 1, 2, 3, 4, 5, 6, 7, 8, 9, 10, 11, 12, 13, 14, 15] rfl) (hK.sub (tys' := (tSP ca cS)) [0, 1, 2, 3, 4, 5, 6, 7, 8, 9, 10, 11, 12, 13] rfl) (hD.sub (ws' := (wSP ad ca P S a cS ro)) [0, 1, 2, 3, 4, 5, 6, 7, 8, 9, 10, 11, 12, 13, 14, 15] (by decide) rfl)⟩ rfl rfl hl.1 rfl (lv_room (Nat.le_of_ble_eq_true rfl)) d_S_goThrough_8 ⟨Nat.le_of_ble_eq_true rfl, Nat.le_of_ble_eq_true rfl⟩) hP hD hS hA [0, 1, 2, 3, 4, 5, 6, 7, 8, 9, 10, 11, 12, 13, 14, 15] [] rfl rfl (by decide) (by decide) (fun u_1 H locs hu_1 hP hD hS => ?_)
  replace hP := hP.sub (ws' := wSP ad ca P (openS S ro 0 0) a cS ro) [0, 1, 2, 3, 4, 5, 6, 7, 8, 9, 10, 11, 12, 13, 14, 15] rfl
  replace hD := hD.sub (ws' := wSP ad ca P (openS S ro 0 0) a cS ro) [0, 1, 2, 3, 4, 5, 6, 7, 8, 9, 10, 11, 12, 13, 14, 15] (by decide) rfl
  refine nr_iconst hx hb 0 d_S_goThrough_11 (by decide) ?_
  refine lv_istore (lv' := [(4, .int (nI 0)), (3, .int (nI 0)), (2, .int (nI 0)), (0, .ref (ad 2)), (1, .ref a)]) hx hb d_S_goThrough_12 hl (by decide) rfl (fun ls hl => ?_)
  replace hP : ∃ (k t d p1 nx st rt le : Nat) (tr : Nat → Nat) (be : Nat → Nat) (S1 : Nat → Nat → Nat), (Sim P ro (S 0 1) (S 0 0) S1 d p1 nx st rt le tr be) ∧ (2 * (S 0 0 - st) + (d * P 0 0 + p1) + 2 ≤ k) ∧ (t + k ≤ 40002) ∧ (srch P ro (S 0 1) (S 0 0) k d p1 nx st rt le tr be = srch P ro (S 0 1) (S 0 0) 40002 0 0 0 0 0 0 (fun _ => 0) (fun _ => 0)) ∧ lv_has ls 7 [(0, .ref (ad 2)), (1, .ref a), (2, .int (nI d)), (3, .int (nI p1)), (4, .int (nI t))] ∧ va_P D cls (wSP ad ca P S1 a cS ro) H ∧ va_D A (wSP ad ca P S1 a cS ro) ∧ va_S A s.heap H locs := ⟨40002, 0, 0, 0, 0, 0, 0, 0, fun _ => 0, fun _ => 0, openS S ro 0 0, sim_start hP0 hS0 hn hdd h2 z02 z03 z04 h05z hro hout, (by omega), (by omega), rfl, lv_sub hl [3, 4, 2, 1, 0] rfl, hP, hD, hS⟩
  clear hl hD hS
  obtain ⟨k, t, d, p1, nx, st, rt, le, tr, be, S1, hsim, hfu, htk, hres, hl, hP, hD, hS⟩ := hP
  induction k generalizing t d p1 nx st rt le tr be S1 ls H locs with
  | zero => exfalso; omega
  | succ k ih_14 =>
    obtain ⟨hok, x00, x01, x02, x03, x05, x4a, x4b, hpn, hdn, hsl, hrs, -, -, x4, x3, hnx, htr⟩ := id hsim
    obtain ⟨g00, g01, g02, g03, g04, g05, g06, hs1, hs2, hs3, hs4, hs5, hs6, hs7⟩ := id hok
    refine lv_iload hx hb d_S_goThrough_14 (lv_at hl 4 rfl) ?_
    refine lv_ldc (v := nI 40002) hx hb hown (htb _ q490) d_S_goThrough_16 ?_
    refine nr_icmp_ge (tgt := 210) hx hb (by omega) (by omega) d_S_goThrough_18 (by decide) (fun c_18 => by exfalso; omega) (fun c_18 => ?_)
    refine lv_iload_n hx hb d_S_goThrough_21 rfl (lv_at hl 2 rfl) ?_
    refine nr_if_lt (tgt := 210) hx hb (by omega) d_S_goThrough_22 (by decide) (fun c_22 => c_22.elim) (fun c_22 => ?_)
    refine lv_aload_n hx hb d_S_goThrough_25 rfl (lv_at hl 0 rfl) ?_
    refine va_get (D := D) (ci := 1) (v := .int (nI (S1 0 5))) (C := R_S) (T := F_S) (N := 15) hx hb htb u_S hown hK hP 7 rfl rfl 13 (by decide) (htb _ q100) (fun _ h9 => h9) rfl d_S_goThrough_26 ?_
    refine nr_if_ne (tgt := 210) hx hb (by omega) d_S_goThrough_29 (by decide) (fun c_29 => by exfalso; omega) (fun c_29 => ?_)
    refine lv_iload_n hx hb d_S_goThrough_32 rfl (lv_at hl 3 rfl) ?_
    refine lv_iload_n hx hb d_S_goThrough_33 rfl (lv_at hl 2 rfl) ?_
    refine nr_calli (va_runSN (As := [.int (nI p1), .int (nI d)]) (rest := []) ⟨hx, hb, hml, hown, hts⟩ (c_R_cell l D p1 d) ⟨va_cnB 2 hts (gTB q_R_cell) rfl rfl rfl (hN.nw q489 rfl) (htb _ q1) hd_R_cell ⟨Nat.le_of_ble_eq_true rfl, Nat.le_of_ble_eq_true rfl⟩, (htb _ q174), trivial⟩ ⟨ro_blind, ro_pre hN (hP.sub (ws' := []) [] rfl) (hK.sub (tys' := []) [] rfl)⟩ rfl rfl hl.1 rfl (lv_room (Nat.le_of_ble_eq_true rfl)) d_S_goThrough_34 ⟨Nat.le_of_ble_eq_true rfl, Nat.le_of_ble_eq_true rfl⟩) (fun r_2 hr_2 => ?_)
    subst hr_2
    refine lv_istore (lv' := [(5, .int (nI (d * 6 + p1))), (0, .ref (ad 2)), (1, .ref a), (2, .int (nI d)), (3, .int (nI p1)), (4, .int (nI t))]) hx hb d_S_goThrough_37 hl (by decide) rfl (fun ls hl => ?_)
    refine lv_iload_n hx hb d_S_goThrough_39 rfl (lv_at hl 4 rfl) ?_
    refine lv_aload_n hx hb d_S_goThrough_40 rfl (lv_at hl 1 rfl) ?_
    refine va_get (D := D) (ci := 1) (v := .ref (ad 1)) (C := R_S) (T := F_S) (N := 15) hx hb htb u_S hown hK hP 7 rfl rfl 0 (by decide) (htb _ q83) (fun _ h9 => h9) rfl d_S_goThrough_41 ?_
    refine va_getN (D := D) (ci := 0) (v := .int (nI (P 0 0))) (C := R_P) (T := F_P) (N := 12) hx hb htb u_P hown hK hP 0 rfl rfl 0 (by decide) (hN.at q29 rfl rfl) (fun _ h9 => h9) rfl d_S_goThrough_44 ?_
    refine nr_iconst hx hb 1 d_S_goThrough_47 (by decide) ?_
    refine nr_isub hx hb (by omega) d_S_goThrough_48 ?_
    refine nr_icmp_ne (tgt := 56) hx hb (by omega) (by omega) d_S_goThrough_49 (by decide) (fun c_49 => ?_) (fun c_49 => ?_)
    · refine nr_iconst hx hb 0 d_S_goThrough_56 (by decide) ?_
      refine lv_istore (lv' := [(6, .int (nI 0)), (5, .int (nI (d * 6 + p1))), (0, .ref (ad 2)), (1, .ref a), (2, .int (nI d)), (3, .int (nI p1)), (4, .int (nI t))]) hx hb d_S_goThrough_57 hl (by decide) rfl (fun ls hl => ?_)
      refine lv_aload_n hx hb d_S_goThrough_59 rfl (lv_at hl 2 rfl) ?_
      refine va_get (D := D) (ci := 1) (v := .ref (ad 11)) (C := R_S) (T := F_S) (N := 15) hx hb htb u_S hown hK hP 7 rfl rfl 3 (by decide) (htb _ q87) (fun _ h9 => h9) rfl d_S_goThrough_60 ?_
      refine lv_iload hx hb d_S_goThrough_63 (lv_at hl 1 rfl) ?_
      refine nr_iald hx hb hK hP 10 8 rfl rfl (by omega) (by decide) d_S_goThrough_65 ?_
      have hv_3 := hs3 (d * 6 + p1)
      refine lv_aload_n hx hb d_S_goThrough_66 rfl (lv_at hl 2 rfl) ?_
      refine va_get (D := D) (ci := 1) (v := .ref (ad 12)) (C := R_S) (T := F_S) (N := 15) hx hb htb u_S hown hK hP 7 rfl rfl 4 (by decide) (htb _ q88) (fun _ h9 => h9) rfl d_S_goThrough_67 ?_
      refine lv_iload hx hb d_S_goThrough_70 (lv_at hl 1 rfl) ?_
      refine nr_iald hx hb hK hP 11 9 rfl rfl (by omega) (by decide) d_S_goThrough_72 ?_
      have hv_4 := hs4 (d * 6 + p1)
      refine nr_icmp_le (tgt := 111) hx hb (by omega) (by omega) d_S_goThrough_73 (by decide) (fun c_73 => ?_) (fun c_73 => ?_)
      · refine lv_aload_n hx hb d_S_goThrough_111 rfl (lv_at hl 2 rfl) ?_
        refine va_get (D := D) (ci := 1) (v := .int (nI (S1 0 2))) (C := R_S) (T := F_S) (N := 15) hx hb htb u_S hown hK hP 7 rfl rfl 10 (by decide) (htb _ q94) (fun _ h9 => h9) rfl d_S_goThrough_112 ?_
        refine lv_aload_n hx hb d_S_goThrough_115 rfl (lv_at hl 2 rfl) ?_
        refine va_get (D := D) (ci := 1) (v := .int (nI (S1 0 0))) (C := R_S) (T := F_S) (N := 15) hx hb htb u_S hown hK hP 7 rfl rfl 8 (by decide) (htb _ q92) (fun _ h9 => h9) rfl d_S_goThrough_116 ?_
        refine nr_icmp_lt (tgt := 130) hx hb (by omega) (by omega) d_S_goThrough_119 (by decide) (fun c_119 => ?_) (fun c_119 => ?_)
        · refine lv_aload_n hx hb d_S_goThrough_130 rfl (lv_at hl 2 rfl) ?_
          refine lv_iload_n hx hb d_S_goThrough_131 rfl (lv_at hl 5 rfl) ?_
          refine lv_iload_n hx hb d_S_goThrough_132 rfl (lv_at hl 4 rfl) ?_
          have hcurS : okS S1 := hok
          refine nr_callwi (wr := ([] : va_W)) (va_runV (As := [.int (nI p1), .int (nI d)]) (rest := []) ⟨hx, hb, hml, hown, hts⟩ (c_S_standsNext l D ad ca P S1 a cS ro hP0 hcurS hro p1 d (by omega) (by omega) (by omega) (by omega) H.size) ⟨callB_of 2 hts (gTB q_S_standsNext) rfl rfl rfl (htb _ q3) (htb _ q491) hd_S_standsNext ⟨Nat.le_of_ble_eq_true rfl, Nat.le_of_ble_eq_true rfl⟩, (htb _ q493), (htb _ sel_S_standsNext)⟩ ⟨rw_blind, va_recv (hK.sub (tys' := []) [] rfl) hP (ci := 1) (q0 := 7) rfl rfl, rw_pre hN (hP.sub (ws' := (wSP ad ca P S1 a cS ro)) [0, 1, 2, 3, 4, 5, 6, 7, 8, 9, 10, 11, 12, 13, 14, 15] rfl) (hK.sub (tys' := (tSP ca cS)) [0, 1, 2, 3, 4, 5, 6, 7, 8, 9, 10, 11, 12, 13] rfl) (hD.sub (ws' := (wSP ad ca P S1 a cS ro)) [0, 1, 2, 3, 4, 5, 6, 7, 8, 9, 10, 11, 12, 13, 14, 15] (by decide) rfl)⟩ rfl rfl hl.1 rfl (lv_room (Nat.le_of_ble_eq_true rfl)) d_S_goThrough_133 ⟨Nat.le_of_ble_eq_true rfl, Nat.le_of_ble_eq_true rfl⟩) hP hD hS hA [0, 1, 2, 3, 4, 5, 6, 7, 8, 9, 10, 11, 12, 13, 14, 15] [] rfl rfl (by decide) (by decide) (fun r_5 u_5 H locs hr_5 hP hD hS => ?_)
          subst hr_5
          replace hP := hP.sub (ws' := wSP ad ca P (snS P S1 p1 d) a cS ro) [0, 1, 2, 3, 4, 5, 6, 7, 8, 9, 10, 11, 12, 13, 14, 15] rfl
          replace hD := hD.sub (ws' := wSP ad ca P (snS P S1 p1 d) a cS ro) [0, 1, 2, 3, 4, 5, 6, 7, 8, 9, 10, 11, 12, 13, 14, 15] (by decide) rfl
          refine nr_if_eq (tgt := 204) hx hb b01_lt d_S_goThrough_136 (by decide) (fun c_136 => ?_) (fun c_136 => ?_)
          · refine nr_iinc (k := 6) (lv' := [(4, .int (nI (t + 1))), (6, .int (nI 0)), (5, .int (nI (d * 6 + p1))), (0, .ref (ad 2)), (1, .ref a), (2, .int (nI d)), (3, .int (nI p1))]) hx hb d_S_goThrough_204 hl rfl (by decide) rfl (fun ls hl => ?_)
            refine lv_goto (tgt := 14) hx hb d_S_goThrough_207 (by decide) ?_
            exact ih_14 _ _ _ _ _ _ _ _ _ _ _ _ _ (sim_fail hP0 hro hsim (fun h => absurd ((sim_ex hsim).mpr h) (by omega)) (by omega)) (by first | omega | (rw [Nat.add_mul]; omega)) (by omega) (by rw [← hres, srch, if_neg (fun h => absurd ((sim_ex hsim).mpr h) (by omega)), if_neg (show ¬ st = S 0 0 by omega), if_pos (Decidable.byContradiction (fun h => b01_z c_136 ((sim_gu hP0 hro hcap hsim (fun h => absurd ((sim_ex hsim).mpr h) (by omega))).mpr h)))]) (lv_sub hl [3, 4, 5, 6, 0] rfl) hP hD hS
          · refine lv_iload hx hb d_S_goThrough_139 (lv_at hl 0 rfl) ?_
            refine nr_if_eq (tgt := 171) hx hb (by omega) d_S_goThrough_141 (by decide) (fun c_141 => ?_) (fun c_141 => by exfalso; omega)
            refine lv_iload hx hb d_S_goThrough_171 (lv_at hl 0 rfl) ?_
            refine nr_if_eq (tgt := 182) hx hb (by omega) d_S_goThrough_173 (by decide) (fun c_173 => ?_) (fun c_173 => by exfalso; omega)
            refine lv_iload_n hx hb d_S_goThrough_182 rfl (lv_at hl 4 rfl) ?_
            refine lv_istore_n (lv' := [(2, .int (nI d)), (6, .int (nI 0)), (5, .int (nI (d * 6 + p1))), (0, .ref (ad 2)), (1, .ref a), (3, .int (nI p1)), (4, .int (nI t))]) hx hb d_S_goThrough_183 rfl hl (by decide) rfl (fun ls hl => ?_)
            refine lv_iload hx hb d_S_goThrough_184 (lv_at hl 1 rfl) ?_
            refine nr_if_eq (tgt := 193) hx hb (by omega) d_S_goThrough_186 (by decide) (fun c_186 => ?_) (fun c_186 => by exfalso; omega)
            refine lv_iload_n hx hb d_S_goThrough_193 rfl (lv_at hl 5 rfl) ?_
            refine nr_iconst hx hb 1 d_S_goThrough_194 (by decide) ?_
            refine nr_iadd hx hb d_S_goThrough_195 ?_
            refine lv_istore_n (lv' := [(3, .int (nI (p1 + 1))), (2, .int (nI d)), (6, .int (nI 0)), (5, .int (nI (d * 6 + p1))), (0, .ref (ad 2)), (1, .ref a), (4, .int (nI t))]) hx hb d_S_goThrough_196 rfl hl (by decide) rfl (fun ls hl => ?_)
            refine lv_aload_n hx hb d_S_goThrough_197 rfl (lv_at hl 4 rfl) ?_
            refine lv_aload_n hx hb d_S_goThrough_198 rfl (lv_at hl 5 rfl) ?_
            refine lv_iload_n hx hb d_S_goThrough_199 rfl (lv_at hl 0 rfl) ?_
            refine lv_iload_n hx hb d_S_goThrough_200 rfl (lv_at hl 1 rfl) ?_
            have hcurS : okS (snS P S1 p1 d) := (ok_snS hP0 hok hpn (by omega) (by omega) (by omega))
            refine nr_callv (wr := ([] : va_W)) (va_runV (As := [.ref a, .int (nI (p1 + 1)), .int (nI d)]) (rest := []) ⟨hx, hb, hml, hown, hts⟩ (c_S_open l D ad ca P (snS P S1 p1 d) a cS ro hP0 hcurS hro (p1 + 1) d (by omega) (by omega) H.size) ⟨callB_of 3 hts (gTB q_S_open) rfl rfl rfl (htb _ q3) (htb _ q485) hd_S_open ⟨Nat.le_of_ble_eq_true rfl, Nat.le_of_ble_eq_true rfl⟩, (htb _ q487), (htb _ sel_S_open)⟩ ⟨rw_blind, va_recv (hK.sub (tys' := []) [] rfl) hP (ci := 1) (q0 := 7) rfl rfl, rw_pre hN (hP.sub (ws' := (wSP ad ca P (snS P S1 p1 d) a cS ro)) [0, 1, 2, 3, 4, 5, 6, 7, 8, 9, 10, 11, 12, 13, 14, 15] rfl) (hK.sub (tys' := (tSP ca cS)) [0, 1, 2, 3, 4, 5, 6, 7, 8, 9, 10, 11, 12, 13] rfl) (hD.sub (ws' := (wSP ad ca P (snS P S1 p1 d) a cS ro)) [0, 1, 2, 3, 4, 5, 6, 7, 8, 9, 10, 11, 12, 13, 14, 15] (by decide) rfl)⟩ rfl rfl hl.1 rfl (lv_room (Nat.le_of_ble_eq_true rfl)) d_S_goThrough_201 ⟨Nat.le_of_ble_eq_true rfl, Nat.le_of_ble_eq_true rfl⟩) hP hD hS hA [0, 1, 2, 3, 4, 5, 6, 7, 8, 9, 10, 11, 12, 13, 14, 15] [] rfl rfl (by decide) (by decide) (fun u_6 H locs hu_6 hP hD hS => ?_)
            replace hP := hP.sub (ws' := wSP ad ca P (openS (snS P S1 p1 d) ro (p1 + 1) d) a cS ro) [0, 1, 2, 3, 4, 5, 6, 7, 8, 9, 10, 11, 12, 13, 14, 15] rfl
            replace hD := hD.sub (ws' := wSP ad ca P (openS (snS P S1 p1 d) ro (p1 + 1) d) a cS ro) [0, 1, 2, 3, 4, 5, 6, 7, 8, 9, 10, 11, 12, 13, 14, 15] (by decide) rfl
            refine nr_iinc (k := 6) (lv' := [(4, .int (nI (t + 1))), (3, .int (nI (p1 + 1))), (2, .int (nI d)), (6, .int (nI 0)), (5, .int (nI (d * 6 + p1))), (0, .ref (ad 2)), (1, .ref a)]) hx hb d_S_goThrough_204 hl rfl (by decide) rfl (fun ls hl => ?_)
            refine lv_goto (tgt := 14) hx hb d_S_goThrough_207 (by decide) ?_
            exact ih_14 _ _ _ _ _ _ _ _ _ _ _ _ _ (sim_next hP0 hro hsim (fun h => absurd ((sim_ex hsim).mpr h) (by omega)) (by omega) (b01_nz c_136) c_49) (by first | omega | (rw [Nat.add_mul]; omega)) (by omega) (by rw [← hres, srch, if_neg (fun h => absurd ((sim_ex hsim).mpr h) (by omega)), if_neg (show ¬ st = S 0 0 by omega), if_neg ((sim_gu hP0 hro hcap hsim (fun h => absurd ((sim_ex hsim).mpr h) (by omega))).mp (b01_nz c_136)), if_neg c_49]) (lv_sub hl [5, 6, 2, 1, 0] rfl) hP hD hS
        · refine lv_aload_n hx hb d_S_goThrough_122 rfl (lv_at hl 2 rfl) ?_
          refine nr_iconst hx hb 1 d_S_goThrough_123 (by decide) ?_
          refine va_put (D := D) (ci := 1) (v := .int (nI 1)) (ty := .boolean) (C := R_S) (T := F_S) (N := 15) hx hb htb u_S t_S t_S_ok n_S hown hK hP hD hS 7 rfl rfl 13 (by decide) (htb _ q100) (fun _ h9 => h9) rfl (by decide +kernel) (nr_bool (by omega)) (nr_boolF (by omega)) (Nat.le_of_ble_eq_true rfl) d_S_goThrough_124 (fun H locs hP hD hS => ?_)
          replace hP : va_P D cls (wSP ad ca P (up2 S1 0 5 1) a cS ro) H := hP
          replace hD : va_D A (wSP ad ca P (up2 S1 0 5 1) a cS ro) := hD
          refine lv_goto (tgt := 204) hx hb d_S_goThrough_127 (by decide) ?_
          refine nr_iinc (k := 6) (lv' := [(4, .int (nI (t + 1))), (6, .int (nI 0)), (5, .int (nI (d * 6 + p1))), (0, .ref (ad 2)), (1, .ref a), (2, .int (nI d)), (3, .int (nI p1))]) hx hb d_S_goThrough_204 hl rfl (by decide) rfl (fun ls hl => ?_)
          refine lv_goto (tgt := 14) hx hb d_S_goThrough_207 (by decide) ?_
          refine lv_iload hx hb d_S_goThrough_14 (lv_at hl 0 rfl) ?_
          refine lv_ldc (v := nI 40002) hx hb hown (htb _ q490) d_S_goThrough_16 ?_
          refine nr_icmp_ge (tgt := 210) hx hb (by omega) (by omega) d_S_goThrough_18 (by decide) (fun c_18 => ?_) (fun c_18 => ?_)
          · exact W.vret hx hb hr (fun t ht hW => ⟨⟨up2 S1 0 5 1, rfl, by rw [← hres, srch, if_neg (fun h => absurd ((sim_ex hsim).mpr h) (by omega)), if_pos (show st = S 0 0 by omega)]; exact ⟨⟨g00, g01, g02, g03, g04, Nat.le_refl 1, g06, hs1, hs2, hs3, hs4, hs5, hs6, hs7⟩, rfl, x02, x03, x4b⟩, by rw [ht]; exact hP, hD⟩, hS.F ht⟩) hS.2.2 d_S_goThrough_210
          · refine lv_iload_n hx hb d_S_goThrough_21 rfl (lv_at hl 5 rfl) ?_
            refine nr_if_lt (tgt := 210) hx hb (by omega) d_S_goThrough_22 (by decide) (fun c_22 => c_22.elim) (fun c_22 => ?_)
            refine lv_aload_n hx hb d_S_goThrough_25 rfl (lv_at hl 3 rfl) ?_
            refine va_get (D := D) (ci := 1) (v := .int (nI 1)) (C := R_S) (T := F_S) (N := 15) hx hb htb u_S hown hK hP 7 rfl rfl 13 (by decide) (htb _ q100) (fun _ h9 => h9) rfl d_S_goThrough_26 ?_
            refine nr_if_ne (tgt := 210) hx hb (by omega) d_S_goThrough_29 (by decide) (fun c_29 => ?_) (fun c_29 => by exfalso; omega)
            exact W.vret hx hb hr (fun t ht hW => ⟨⟨up2 S1 0 5 1, rfl, by rw [← hres, srch, if_neg (fun h => absurd ((sim_ex hsim).mpr h) (by omega)), if_pos (show st = S 0 0 by omega)]; exact ⟨⟨g00, g01, g02, g03, g04, Nat.le_refl 1, g06, hs1, hs2, hs3, hs4, hs5, hs6, hs7⟩, rfl, x02, x03, x4b⟩, by rw [ht]; exact hP, hD⟩, hS.F ht⟩) hS.2.2 d_S_goThrough_210
      · refine lv_iload_n hx hb d_S_goThrough_76 rfl (lv_at hl 5 rfl) ?_
        refine nr_if_ne (tgt := 86) hx hb (by omega) d_S_goThrough_77 (by decide) (fun c_77 => ?_) (fun c_77 => ?_)
        · refine lv_iload_n hx hb d_S_goThrough_86 rfl (lv_at hl 4 rfl) ?_
          refine lv_istore_n (lv' := [(2, .int (nI d)), (6, .int (nI 0)), (5, .int (nI (d * 6 + p1))), (0, .ref (ad 2)), (1, .ref a), (3, .int (nI p1)), (4, .int (nI t))]) hx hb d_S_goThrough_87 rfl hl (by decide) rfl (fun ls hl => ?_)
          refine lv_iload_n hx hb d_S_goThrough_88 rfl (lv_at hl 5 rfl) ?_
          refine nr_if_ne (tgt := 104) hx hb (by omega) d_S_goThrough_89 (by decide) (fun c_89 => ?_) (fun c_89 => by exfalso; omega)
          refine lv_iload_n hx hb d_S_goThrough_104 rfl (lv_at hl 5 rfl) ?_
          refine nr_iconst hx hb 1 d_S_goThrough_105 (by decide) ?_
          refine nr_isub hx hb (by omega) d_S_goThrough_106 ?_
          refine lv_istore_n (lv' := [(3, .int (nI (p1 - 1))), (2, .int (nI d)), (6, .int (nI 0)), (5, .int (nI (d * 6 + p1))), (0, .ref (ad 2)), (1, .ref a), (4, .int (nI t))]) hx hb d_S_goThrough_107 rfl hl (by decide) rfl (fun ls hl => ?_)
          refine lv_goto (tgt := 204) hx hb d_S_goThrough_108 (by decide) ?_
          refine nr_iinc (k := 6) (lv' := [(4, .int (nI (t + 1))), (3, .int (nI (p1 - 1))), (2, .int (nI d)), (6, .int (nI 0)), (5, .int (nI (d * 6 + p1))), (0, .ref (ad 2)), (1, .ref a)]) hx hb d_S_goThrough_204 hl rfl (by decide) rfl (fun ls hl => ?_)
          refine lv_goto (tgt := 14) hx hb d_S_goThrough_207 (by decide) ?_
          exact ih_14 _ _ _ _ _ _ _ _ _ _ _ _ _ (sim_back hsim c_77) (by first | omega | (rw [Nat.add_mul]; omega)) (by omega) (by rw [← hres, srch, if_pos (show (if d < S 0 1 then 0 < nx else 3 < nx) from (sim_ex hsim).mp c_73), if_neg c_77]) (lv_sub hl [5, 6, 2, 1, 0] rfl) hP hD hS
        · rcases Nat.eq_zero_or_pos d with hd0 | hd0
          · refine lv_iload_n hx hb d_S_goThrough_80 rfl (lv_at hl 4 rfl) ?_
            refine nr_iconst hx hb 1 d_S_goThrough_81 (by decide) ?_
            refine lv_isub hx hb d_S_goThrough_82 ?_
            refine lv_goto (tgt := 87) hx hb d_S_goThrough_83 (by decide) ?_
            refine lv_istore_n (lv' := [(2, .int (nI d - nI 1)), (6, .int (nI 0)), (5, .int (nI (d * 6 + p1))), (0, .ref (ad 2)), (1, .ref a), (3, .int (nI p1)), (4, .int (nI t))]) hx hb d_S_goThrough_87 rfl hl (by decide) rfl (fun ls hl => ?_)
            refine lv_iload_n hx hb d_S_goThrough_88 rfl (lv_at hl 5 rfl) ?_
            refine nr_if_ne (tgt := 104) hx hb (by omega) d_S_goThrough_89 (by decide) (fun c_89 => by exfalso; omega) (fun c_89 => ?_)
            refine lv_aload_n hx hb d_S_goThrough_92 rfl (lv_at hl 3 rfl) ?_
            refine va_get (D := D) (ci := 1) (v := .ref (ad 1)) (C := R_S) (T := F_S) (N := 15) hx hb htb u_S hown hK hP 7 rfl rfl 0 (by decide) (htb _ q83) (fun _ h9 => h9) rfl d_S_goThrough_93 ?_
            refine va_getN (D := D) (ci := 0) (v := .int (nI (P 0 0))) (C := R_P) (T := F_P) (N := 12) hx hb htb u_P hown hK hP 0 rfl rfl 0 (by decide) (hN.at q29 rfl rfl) (fun _ h9 => h9) rfl d_S_goThrough_96 ?_
            refine nr_iconst hx hb 1 d_S_goThrough_99 (by decide) ?_
            refine nr_isub hx hb (by omega) d_S_goThrough_100 ?_
            refine lv_goto (tgt := 107) hx hb d_S_goThrough_101 (by decide) ?_
            refine lv_istore_n (lv' := [(3, .int (nI ((P 0 0) - 1))), (2, .int (nI d - nI 1)), (6, .int (nI 0)), (5, .int (nI (d * 6 + p1))), (0, .ref (ad 2)), (1, .ref a), (4, .int (nI t))]) hx hb d_S_goThrough_107 rfl hl (by decide) rfl (fun ls hl => ?_)
            refine lv_goto (tgt := 204) hx hb d_S_goThrough_108 (by decide) ?_
            refine nr_iinc (k := 6) (lv' := [(4, .int (nI (t + 1))), (3, .int (nI ((P 0 0) - 1))), (2, .int (nI d - nI 1)), (6, .int (nI 0)), (5, .int (nI (d * 6 + p1))), (0, .ref (ad 2)), (1, .ref a)]) hx hb d_S_goThrough_204 hl rfl (by decide) rfl (fun ls hl => ?_)
            refine lv_goto (tgt := 14) hx hb d_S_goThrough_207 (by decide) ?_
            refine lv_iload hx hb d_S_goThrough_14 (lv_at hl 0 rfl) ?_
            refine lv_ldc (v := nI 40002) hx hb hown (htb _ q490) d_S_goThrough_16 ?_
            refine nr_icmp_ge (tgt := 210) hx hb (by omega) (by omega) d_S_goThrough_18 (by decide) (fun c_18 => ?_) (fun c_18 => ?_)
            · exact W.vret hx hb hr (fun t ht hW => ⟨⟨S1, rfl, by rw [← hres, srch, if_pos (show (if d < S 0 1 then 0 < nx else 3 < nx) from (sim_ex hsim).mp c_73), if_pos c_77, if_pos hd0]; exact ⟨hok, x05, x02, x03, x4b⟩, by rw [ht]; exact hP, hD⟩, hS.F ht⟩) hS.2.2 d_S_goThrough_210
            · refine lv_iload_n hx hb d_S_goThrough_21 rfl (lv_at hl 2 rfl) ?_
              refine lv_if_lt (tgt := 210) hx hb d_S_goThrough_22 (by decide) (fun c_22 => ?_) (fun c_22 => absurd (by rw [hd0]; decide) c_22)
              exact W.vret hx hb hr (fun t ht hW => ⟨⟨S1, rfl, by rw [← hres, srch, if_pos (show (if d < S 0 1 then 0 < nx else 3 < nx) from (sim_ex hsim).mp c_73), if_pos c_77, if_pos hd0]; exact ⟨hok, x05, x02, x03, x4b⟩, by rw [ht]; exact hP, hD⟩, hS.F ht⟩) hS.2.2 d_S_goThrough_210
          · have hdm := mul_pred (n := P 0 0) hd0
            refine lv_iload_n hx hb d_S_goThrough_80 rfl (lv_at hl 4 rfl) ?_
            refine nr_iconst hx hb 1 d_S_goThrough_81 (by decide) ?_
            refine nr_isub hx hb (by omega) d_S_goThrough_82 ?_
            refine lv_goto (tgt := 87) hx hb d_S_goThrough_83 (by decide) ?_
            refine lv_istore_n (lv' := [(2, .int (nI (d - 1))), (6, .int (nI 0)), (5, .int (nI (d * 6 + p1))), (0, .ref (ad 2)), (1, .ref a), (3, .int (nI p1)), (4, .int (nI t))]) hx hb d_S_goThrough_87 rfl hl (by decide) rfl (fun ls hl => ?_)
            refine lv_iload_n hx hb d_S_goThrough_88 rfl (lv_at hl 5 rfl) ?_
            refine nr_if_ne (tgt := 104) hx hb (by omega) d_S_goThrough_89 (by decide) (fun c_89 => by exfalso; omega) (fun c_89 => ?_)
            refine lv_aload_n hx hb d_S_goThrough_92 rfl (lv_at hl 3 rfl) ?_
            refine va_get (D := D) (ci := 1) (v := .ref (ad 1)) (C := R_S) (T := F_S) (N := 15) hx hb htb u_S hown hK hP 7 rfl rfl 0 (by decide) (htb _ q83) (fun _ h9 => h9) rfl d_S_goThrough_93 ?_
            refine va_getN (D := D) (ci := 0) (v := .int (nI (P 0 0))) (C := R_P) (T := F_P) (N := 12) hx hb htb u_P hown hK hP 0 rfl rfl 0 (by decide) (hN.at q29 rfl rfl) (fun _ h9 => h9) rfl d_S_goThrough_96 ?_
            refine nr_iconst hx hb 1 d_S_goThrough_99 (by decide) ?_
            refine nr_isub hx hb (by omega) d_S_goThrough_100 ?_
            refine lv_goto (tgt := 107) hx hb d_S_goThrough_101 (by decide) ?_
            refine lv_istore_n (lv' := [(3, .int (nI ((P 0 0) - 1))), (2, .int (nI (d - 1))), (6, .int (nI 0)), (5, .int (nI (d * 6 + p1))), (0, .ref (ad 2)), (1, .ref a), (4, .int (nI t))]) hx hb d_S_goThrough_107 rfl hl (by decide) rfl (fun ls hl => ?_)
            refine lv_goto (tgt := 204) hx hb d_S_goThrough_108 (by decide) ?_
            refine nr_iinc (k := 6) (lv' := [(4, .int (nI (t + 1))), (3, .int (nI ((P 0 0) - 1))), (2, .int (nI (d - 1))), (6, .int (nI 0)), (5, .int (nI (d * 6 + p1))), (0, .ref (ad 2)), (1, .ref a)]) hx hb d_S_goThrough_204 hl rfl (by decide) rfl (fun ls hl => ?_)
            refine lv_goto (tgt := 14) hx hb d_S_goThrough_207 (by decide) ?_
            exact ih_14 _ _ _ _ _ _ _ _ _ _ _ _ _ (sim_backd hsim c_77 hd0) (by first | omega | (rw [Nat.add_mul]; omega)) (by omega) (by rw [← hres, srch, if_pos (show (if d < S 0 1 then 0 < nx else 3 < nx) from (sim_ex hsim).mp c_73), if_pos c_77, if_neg (show ¬ d = 0 by omega)]) (lv_sub hl [5, 6, 2, 1, 0] rfl) hP hD hS
    · refine nr_iconst hx hb 1 d_S_goThrough_52 (by decide) ?_
      refine lv_goto (tgt := 57) hx hb d_S_goThrough_53 (by decide) ?_
      refine lv_istore (lv' := [(6, .int (nI 1)), (5, .int (nI (d * 6 + p1))), (0, .ref (ad 2)), (1, .ref a), (2, .int (nI d)), (3, .int (nI p1)), (4, .int (nI t))]) hx hb d_S_goThrough_57 hl (by decide) rfl (fun ls hl => ?_)
      refine lv_aload_n hx hb d_S_goThrough_59 rfl (lv_at hl 2 rfl) ?_
      refine va_get (D := D) (ci := 1) (v := .ref (ad 11)) (C := R_S) (T := F_S) (N := 15) hx hb htb u_S hown hK hP 7 rfl rfl 3 (by decide) (htb _ q87) (fun _ h9 => h9) rfl d_S_goThrough_60 ?_
      refine lv_iload hx hb d_S_goThrough_63 (lv_at hl 1 rfl) ?_
      refine nr_iald hx hb hK hP 10 8 rfl rfl (by omega) (by decide) d_S_goThrough_65 ?_
      have hv_8 := hs3 (d * 6 + p1)
      refine lv_aload_n hx hb d_S_goThrough_66 rfl (lv_at hl 2 rfl) ?_
      refine va_get (D := D) (ci := 1) (v := .ref (ad 12)) (C := R_S) (T := F_S) (N := 15) hx hb htb u_S hown hK hP 7 rfl rfl 4 (by decide) (htb _ q88) (fun _ h9 => h9) rfl d_S_goThrough_67 ?_
      refine lv_iload hx hb d_S_goThrough_70 (lv_at hl 1 rfl) ?_
      refine nr_iald hx hb hK hP 11 9 rfl rfl (by omega) (by decide) d_S_goThrough_72 ?_
      have hv_9 := hs4 (d * 6 + p1)
      refine nr_icmp_le (tgt := 111) hx hb (by omega) (by omega) d_S_goThrough_73 (by decide) (fun c_73 => ?_) (fun c_73 => ?_)
      · refine lv_aload_n hx hb d_S_goThrough_111 rfl (lv_at hl 2 rfl) ?_
        refine va_get (D := D) (ci := 1) (v := .int (nI (S1 0 2))) (C := R_S) (T := F_S) (N := 15) hx hb htb u_S hown hK hP 7 rfl rfl 10 (by decide) (htb _ q94) (fun _ h9 => h9) rfl d_S_goThrough_112 ?_
        refine lv_aload_n hx hb d_S_goThrough_115 rfl (lv_at hl 2 rfl) ?_
        refine va_get (D := D) (ci := 1) (v := .int (nI (S1 0 0))) (C := R_S) (T := F_S) (N := 15) hx hb htb u_S hown hK hP 7 rfl rfl 8 (by decide) (htb _ q92) (fun _ h9 => h9) rfl d_S_goThrough_116 ?_
        refine nr_icmp_lt (tgt := 130) hx hb (by omega) (by omega) d_S_goThrough_119 (by decide) (fun c_119 => ?_) (fun c_119 => ?_)
        · refine lv_aload_n hx hb d_S_goThrough_130 rfl (lv_at hl 2 rfl) ?_
          refine lv_iload_n hx hb d_S_goThrough_131 rfl (lv_at hl 5 rfl) ?_
          refine lv_iload_n hx hb d_S_goThrough_132 rfl (lv_at hl 4 rfl) ?_
          have hcurS : okS S1 := hok
          refine nr_callwi (wr := ([] : va_W)) (va_runV (As := [.int (nI p1), .int (nI d)]) (rest := []) ⟨hx, hb, hml, hown, hts⟩ (c_S_standsNext l D ad ca P S1 a cS ro hP0 hcurS hro p1 d (by omega) (by omega) (by omega) (by omega) H.size) ⟨callB_of 2 hts (gTB q_S_standsNext) rfl rfl rfl (htb _ q3) (htb _ q491) hd_S_standsNext ⟨Nat.le_of_ble_eq_true rfl, Nat.le_of_ble_eq_true rfl⟩, (htb _ q493), (htb _ sel_S_standsNext)⟩ ⟨rw_blind, va_recv (hK.sub (tys' := []) [] rfl) hP (ci := 1) (q0 := 7) rfl rfl, rw_pre hN (hP.sub (ws' := (wSP ad ca P S1 a cS ro)) [0, 1, 2, 3, 4, 5, 6, 7, 8, 9, 10, 11, 12, 13, 14, 15] rfl) (hK.sub (tys' := (tSP ca cS)) [0, 1, 2, 3, 4, 5, 6, 7, 8, 9, 10, 11, 12, 13] rfl) (hD.sub (ws' := (wSP ad ca P S1 a cS ro)) [0, 1, 2, 3, 4, 5, 6, 7, 8, 9, 10, 11, 12, 13, 14, 15] (by decide) rfl)⟩ rfl rfl hl.1 rfl (lv_room (Nat.le_of_ble_eq_true rfl)) d_S_goThrough_133 ⟨Nat.le_of_ble_eq_true rfl, Nat.le_of_ble_eq_true rfl⟩) hP hD hS hA [0, 1, 2, 3, 4, 5, 6, 7, 8, 9, 10, 11, 12, 13, 14, 15] [] rfl rfl (by decide) (by decide) (fun r_10 u_10 H locs hr_10 hP hD hS => ?_)
          subst hr_10
          replace hP := hP.sub (ws' := wSP ad ca P (snS P S1 p1 d) a cS ro) [0, 1, 2, 3, 4, 5, 6, 7, 8, 9, 10, 11, 12, 13, 14, 15] rfl
          replace hD := hD.sub (ws' := wSP ad ca P (snS P S1 p1 d) a cS ro) [0, 1, 2, 3, 4, 5, 6, 7, 8, 9, 10, 11, 12, 13, 14, 15] (by decide) rfl
          refine nr_if_eq (tgt := 204) hx hb b01_lt d_S_goThrough_136 (by decide) (fun c_136 => ?_) (fun c_136 => ?_)
          · refine nr_iinc (k := 6) (lv' := [(4, .int (nI (t + 1))), (6, .int (nI 1)), (5, .int (nI (d * 6 + p1))), (0, .ref (ad 2)), (1, .ref a), (2, .int (nI d)), (3, .int (nI p1))]) hx hb d_S_goThrough_204 hl rfl (by decide) rfl (fun ls hl => ?_)
            refine lv_goto (tgt := 14) hx hb d_S_goThrough_207 (by decide) ?_
            exact ih_14 _ _ _ _ _ _ _ _ _ _ _ _ _ (sim_fail hP0 hro hsim (fun h => absurd ((sim_ex hsim).mpr h) (by omega)) (by omega)) (by first | omega | (rw [Nat.add_mul]; omega)) (by omega) (by rw [← hres, srch, if_neg (fun h => absurd ((sim_ex hsim).mpr h) (by omega)), if_neg (show ¬ st = S 0 0 by omega), if_pos (Decidable.byContradiction (fun h => b01_z c_136 ((sim_gu hP0 hro hcap hsim (fun h => absurd ((sim_ex hsim).mpr h) (by omega))).mpr h)))]) (lv_sub hl [3, 4, 5, 6, 0] rfl) hP hD hS
          · refine lv_iload hx hb d_S_goThrough_139 (lv_at hl 0 rfl) ?_
            refine nr_if_eq (tgt := 171) hx hb (by omega) d_S_goThrough_141 (by decide) (fun c_141 => by exfalso; omega) (fun c_141 => ?_)
            refine lv_iload_n hx hb d_S_goThrough_144 rfl (lv_at hl 4 rfl) ?_
            refine lv_aload_n hx hb d_S_goThrough_145 rfl (lv_at hl 2 rfl) ?_
            refine va_get (D := D) (ci := 1) (v := .ref (ad 1)) (C := R_S) (T := F_S) (N := 15) hx hb htb u_S hown hK hP 7 rfl rfl 0 (by decide) (htb _ q83) (fun _ h9 => h9) rfl d_S_goThrough_146 ?_
            refine va_getN (D := D) (ci := 0) (v := .int (nI (P 0 1))) (C := R_P) (T := F_P) (N := 12) hx hb htb u_P hown hK hP 0 rfl rfl 1 (by decide) (hN.at q32 rfl rfl) (fun _ h9 => h9) rfl d_S_goThrough_149 ?_
            refine nr_iconst hx hb 1 d_S_goThrough_152 (by decide) ?_
            refine nr_isub hx hb (by omega) d_S_goThrough_153 ?_
            refine nr_icmp_ne (tgt := 171) hx hb (by omega) (by omega) d_S_goThrough_154 (by decide) (fun c_154 => ?_) (fun c_154 => ?_)
            · refine lv_iload hx hb d_S_goThrough_171 (lv_at hl 0 rfl) ?_
              refine nr_if_eq (tgt := 182) hx hb (by omega) d_S_goThrough_173 (by decide) (fun c_173 => by exfalso; omega) (fun c_173 => ?_)
              refine lv_iload_n hx hb d_S_goThrough_176 rfl (lv_at hl 4 rfl) ?_
              refine nr_iconst hx hb 1 d_S_goThrough_177 (by decide) ?_
              refine nr_iadd hx hb d_S_goThrough_178 ?_
              refine lv_goto (tgt := 183) hx hb d_S_goThrough_179 (by decide) ?_
              refine lv_istore_n (lv' := [(2, .int (nI (d + 1))), (6, .int (nI 1)), (5, .int (nI (d * 6 + p1))), (0, .ref (ad 2)), (1, .ref a), (3, .int (nI p1)), (4, .int (nI t))]) hx hb d_S_goThrough_183 rfl hl (by decide) rfl (fun ls hl => ?_)
              refine lv_iload hx hb d_S_goThrough_184 (lv_at hl 1 rfl) ?_
              refine nr_if_eq (tgt := 193) hx hb (by omega) d_S_goThrough_186 (by decide) (fun c_186 => by exfalso; omega) (fun c_186 => ?_)
              refine nr_iconst hx hb 0 d_S_goThrough_189 (by decide) ?_
              refine lv_goto (tgt := 196) hx hb d_S_goThrough_190 (by decide) ?_
              refine lv_istore_n (lv' := [(3, .int (nI 0)), (2, .int (nI (d + 1))), (6, .int (nI 1)), (5, .int (nI (d * 6 + p1))), (0, .ref (ad 2)), (1, .ref a), (4, .int (nI t))]) hx hb d_S_goThrough_196 rfl hl (by decide) rfl (fun ls hl => ?_)
              refine lv_aload_n hx hb d_S_goThrough_197 rfl (lv_at hl 4 rfl) ?_
              refine lv_aload_n hx hb d_S_goThrough_198 rfl (lv_at hl 5 rfl) ?_
              refine lv_iload_n hx hb d_S_goThrough_199 rfl (lv_at hl 0 rfl) ?_
              refine lv_iload_n hx hb d_S_goThrough_200 rfl (lv_at hl 1 rfl) ?_
              have hcurS : okS (snS P S1 p1 d) := (ok_snS hP0 hok hpn (by omega) (by omega) (by omega))
              refine nr_callv (wr := ([] : va_W)) (va_runV (As := [.ref a, .int (nI 0), .int (nI (d + 1))]) (rest := []) ⟨hx, hb, hml, hown, hts⟩ (c_S_open l D ad ca P (snS P S1 p1 d) a cS ro hP0 hcurS hro 0 (d + 1) (by omega) (by omega) H.size) ⟨callB_of 3 hts (gTB q_S_open) rfl rfl rfl (htb _ q3) (htb _ q485) hd_S_open ⟨Nat.le_of_ble_eq_true rfl, Nat.le_of_ble_eq_true rfl⟩, (htb _ q487), (htb _ sel_S_open)⟩ ⟨rw_blind, va_recv (hK.sub (tys' := []) [] rfl) hP (ci := 1) (q0 := 7) rfl rfl, rw_pre hN (hP.sub (ws' := (wSP ad ca P (snS P S1 p1 d) a cS ro)) [0, 1, 2, 3, 4, 5, 6, 7, 8, 9, 10, 11, 12, 13, 14, 15] rfl) (hK.sub (tys' := (tSP ca cS)) [0, 1, 2, 3, 4, 5, 6, 7, 8, 9, 10, 11, 12, 13] rfl) (hD.sub (ws' := (wSP ad ca P (snS P S1 p1 d) a cS ro)) [0, 1, 2, 3, 4, 5, 6, 7, 8, 9, 10, 11, 12, 13, 14, 15] (by decide) rfl)⟩ rfl rfl hl.1 rfl (lv_room (Nat.le_of_ble_eq_true rfl)) d_S_goThrough_201 ⟨Nat.le_of_ble_eq_true rfl, Nat.le_of_ble_eq_true rfl⟩) hP hD hS hA [0, 1, 2, 3, 4, 5, 6, 7, 8, 9, 10, 11, 12, 13, 14, 15] [] rfl rfl (by decide) (by decide) (fun u_11 H locs hu_11 hP hD hS => ?_)
              replace hP := hP.sub (ws' := wSP ad ca P (openS (snS P S1 p1 d) ro 0 (d + 1)) a cS ro) [0, 1, 2, 3, 4, 5, 6, 7, 8, 9, 10, 11, 12, 13, 14, 15] rfl
              replace hD := hD.sub (ws' := wSP ad ca P (openS (snS P S1 p1 d) ro 0 (d + 1)) a cS ro) [0, 1, 2, 3, 4, 5, 6, 7, 8, 9, 10, 11, 12, 13, 14, 15] (by decide) rfl
              refine nr_iinc (k := 6) (lv' := [(4, .int (nI (t + 1))), (3, .int (nI 0)), (2, .int (nI (d + 1))), (6, .int (nI 1)), (5, .int (nI (d * 6 + p1))), (0, .ref (ad 2)), (1, .ref a)]) hx hb d_S_goThrough_204 hl rfl (by decide) rfl (fun ls hl => ?_)
              refine lv_goto (tgt := 14) hx hb d_S_goThrough_207 (by decide) ?_
              exact ih_14 _ _ _ _ _ _ _ _ _ _ _ _ _ (sim_nextd hP0 hro hsim (fun h => absurd ((sim_ex hsim).mpr h) (by omega)) (by omega) (b01_nz c_136) c_49 c_154) (by first | omega | (rw [Nat.add_mul]; omega)) (by omega) (by rw [← hres, srch, if_neg (fun h => absurd ((sim_ex hsim).mpr h) (by omega)), if_neg (show ¬ st = S 0 0 by omega), if_neg ((sim_gu hP0 hro hcap hsim (fun h => absurd ((sim_ex hsim).mpr h) (by omega))).mp (b01_nz c_136)), if_pos c_49, if_neg c_154]) (lv_sub hl [5, 6, 2, 1, 0] rfl) hP hD hS
            · refine lv_aload_n hx hb d_S_goThrough_157 rfl (lv_at hl 2 rfl) ?_
              refine lv_aload_n hx hb d_S_goThrough_158 rfl (lv_at hl 2 rfl) ?_
              refine va_get (D := D) (ci := 1) (v := .ref (ad 15)) (C := R_S) (T := F_S) (N := 15) hx hb htb u_S hown hK hP 7 rfl rfl 7 (by decide) (htb _ q91) (fun _ h9 => h9) rfl d_S_goThrough_159 ?_
              refine lv_iload hx hb d_S_goThrough_162 (lv_at hl 1 rfl) ?_
              refine nr_iald hx hb hK hP 14 12 rfl rfl (by omega) (by decide) d_S_goThrough_164 ?_
              have hv_12 := hs7 (d * 6 + p1)
              have hcurS : okS (snS P S1 p1 d) := (ok_snS hP0 hok hpn (by omega) (by omega) (by omega))
              refine nr_callv (wr := ([] : va_W)) (va_runV (As := [.int (nI ((snS P S1 p1 d) 7 (d * 6 + p1)))]) (rest := []) ⟨hx, hb, hml, hown, hts⟩ (c_S_keepTrial l D ad ca P (snS P S1 p1 d) a cS ro hP0 hcurS hro ((snS P S1 p1 d) 7 (d * 6 + p1)) H.size) ⟨callB_of 1 hts (gTB q_S_keepTrial) rfl rfl rfl (htb _ q3) (htb _ q477) hd_S_keepTrial ⟨Nat.le_of_ble_eq_true rfl, Nat.le_of_ble_eq_true rfl⟩, (htb _ q479), (htb _ sel_S_keepTrial)⟩ ⟨rw_blind, va_recv (hK.sub (tys' := []) [] rfl) hP (ci := 1) (q0 := 7) rfl rfl, rw_pre hN (hP.sub (ws' := (wSP ad ca P (snS P S1 p1 d) a cS ro)) [0, 1, 2, 3, 4, 5, 6, 7, 8, 9, 10, 11, 12, 13, 14, 15] rfl) (hK.sub (tys' := (tSP ca cS)) [0, 1, 2, 3, 4, 5, 6, 7, 8, 9, 10, 11, 12, 13] rfl) (hD.sub (ws' := (wSP ad ca P (snS P S1 p1 d) a cS ro)) [0, 1, 2, 3, 4, 5, 6, 7, 8, 9, 10, 11, 12, 13, 14, 15] (by decide) rfl)⟩ rfl rfl hl.1 rfl (lv_room (Nat.le_of_ble_eq_true rfl)) d_S_goThrough_165 ⟨Nat.le_of_ble_eq_true rfl, Nat.le_of_ble_eq_true rfl⟩) hP hD hS hA [0, 1, 2, 3, 4, 5, 6, 7, 8, 9, 10, 11, 12, 13, 14, 15] [] rfl rfl (by decide) (by decide) (fun u_13 H locs hu_13 hP hD hS => ?_)
              replace hP := hP.sub (ws' := wSP ad ca P (ktS (snS P S1 p1 d) ((snS P S1 p1 d) 7 (d * 6 + p1))) a cS ro) [0, 1, 2, 3, 4, 5, 6, 7, 8, 9, 10, 11, 12, 13, 14, 15] rfl
              replace hD := hD.sub (ws' := wSP ad ca P (ktS (snS P S1 p1 d) ((snS P S1 p1 d) 7 (d * 6 + p1))) a cS ro) [0, 1, 2, 3, 4, 5, 6, 7, 8, 9, 10, 11, 12, 13, 14, 15] (by decide) rfl
              refine lv_goto (tgt := 204) hx hb d_S_goThrough_168 (by decide) ?_
              refine nr_iinc (k := 6) (lv' := [(4, .int (nI (t + 1))), (6, .int (nI 1)), (5, .int (nI (d * 6 + p1))), (0, .ref (ad 2)), (1, .ref a), (2, .int (nI d)), (3, .int (nI p1))]) hx hb d_S_goThrough_204 hl rfl (by decide) rfl (fun ls hl => ?_)
              refine lv_goto (tgt := 14) hx hb d_S_goThrough_207 (by decide) ?_
              exact ih_14 _ _ _ _ _ _ _ _ _ _ _ _ _ (sim_keep hP0 hro hsim (fun h => absurd ((sim_ex hsim).mpr h) (by omega)) (by omega) (b01_nz c_136) c_49 c_154) (by first | omega | (rw [Nat.add_mul]; omega)) (by omega) (by rw [← hres, srch, if_neg (fun h => absurd ((sim_ex hsim).mpr h) (by omega)), if_neg (show ¬ st = S 0 0 by omega), if_neg ((sim_gu hP0 hro hcap hsim (fun h => absurd ((sim_ex hsim).mpr h) (by omega))).mp (b01_nz c_136)), if_pos c_49, if_pos c_154]) (lv_sub hl [3, 4, 5, 6, 0] rfl) hP hD hS
        · refine lv_aload_n hx hb d_S_goThrough_122 rfl (lv_at hl 2 rfl) ?_
          refine nr_iconst hx hb 1 d_S_goThrough_123 (by decide) ?_
          refine va_put (D := D) (ci := 1) (v := .int (nI 1)) (ty := .boolean) (C := R_S) (T := F_S) (N := 15) hx hb htb u_S t_S t_S_ok n_S hown hK hP hD hS 7 rfl rfl 13 (by decide) (htb _ q100) (fun _ h9 => h9) rfl (by decide +kernel) (nr_bool (by omega)) (nr_boolF (by omega)) (Nat.le_of_ble_eq_true rfl) d_S_goThrough_124 (fun H locs hP hD hS => ?_)
          replace hP : va_P D cls (wSP ad ca P (up2 S1 0 5 1) a cS ro) H := hP
          replace hD : va_D A (wSP ad ca P (up2 S1 0 5 1) a cS ro) := hD
          refine lv_goto (tgt := 204) hx hb d_S_goThrough_127 (by decide) ?_
          refine nr_iinc (k := 6) (lv' := [(4, .int (nI (t + 1))), (6, .int (nI 1)), (5, .int (nI (d * 6 + p1))), (0, .ref (ad 2)), (1, .ref a), (2, .int (nI d)), (3, .int (nI p1))]) hx hb d_S_goThrough_204 hl rfl (by decide) rfl (fun ls hl => ?_)
          refine lv_goto (tgt := 14) hx hb d_S_goThrough_207 (by decide) ?_
          refine lv_iload hx hb d_S_goThrough_14 (lv_at hl 0 rfl) ?_
          refine lv_ldc (v := nI 40002) hx hb hown (htb _ q490) d_S_goThrough_16 ?_
          refine nr_icmp_ge (tgt := 210) hx hb (by omega) (by omega) d_S_goThrough_18 (by decide) (fun c_18 => ?_) (fun c_18 => ?_)
          · exact W.vret hx hb hr (fun t ht hW => ⟨⟨up2 S1 0 5 1, rfl, by rw [← hres, srch, if_neg (fun h => absurd ((sim_ex hsim).mpr h) (by omega)), if_pos (show st = S 0 0 by omega)]; exact ⟨⟨g00, g01, g02, g03, g04, Nat.le_refl 1, g06, hs1, hs2, hs3, hs4, hs5, hs6, hs7⟩, rfl, x02, x03, x4b⟩, by rw [ht]; exact hP, hD⟩, hS.F ht⟩) hS.2.2 d_S_goThrough_210
          · refine lv_iload_n hx hb d_S_goThrough_21 rfl (lv_at hl 5 rfl) ?_
            refine nr_if_lt (tgt := 210) hx hb (by omega) d_S_goThrough_22 (by decide) (fun c_22 => c_22.elim) (fun c_22 => ?_)
            refine lv_aload_n hx hb d_S_goThrough_25 rfl (lv_at hl 3 rfl) ?_
            refine va_get (D := D) (ci := 1) (v := .int (nI 1)) (C := R_S) (T := F_S) (N := 15) hx hb htb u_S hown hK hP 7 rfl rfl 13 (by decide) (htb _ q100) (fun _ h9 => h9) rfl d_S_goThrough_26 ?_
            refine nr_if_ne (tgt := 210) hx hb (by omega) d_S_goThrough_29 (by decide) (fun c_29 => ?_) (fun c_29 => by exfalso; omega)
            exact W.vret hx hb hr (fun t ht hW => ⟨⟨up2 S1 0 5 1, rfl, by rw [← hres, srch, if_neg (fun h => absurd ((sim_ex hsim).mpr h) (by omega)), if_pos (show st = S 0 0 by omega)]; exact ⟨⟨g00, g01, g02, g03, g04, Nat.le_refl 1, g06, hs1, hs2, hs3, hs4, hs5, hs6, hs7⟩, rfl, x02, x03, x4b⟩, by rw [ht]; exact hP, hD⟩, hS.F ht⟩) hS.2.2 d_S_goThrough_210
      · refine lv_iload_n hx hb d_S_goThrough_76 rfl (lv_at hl 5 rfl) ?_
        refine nr_if_ne (tgt := 86) hx hb (by omega) d_S_goThrough_77 (by decide) (fun c_77 => ?_) (fun c_77 => ?_)
        · refine lv_iload_n hx hb d_S_goThrough_86 rfl (lv_at hl 4 rfl) ?_
          refine lv_istore_n (lv' := [(2, .int (nI d)), (6, .int (nI 1)), (5, .int (nI (d * 6 + p1))), (0, .ref (ad 2)), (1, .ref a), (3, .int (nI p1)), (4, .int (nI t))]) hx hb d_S_goThrough_87 rfl hl (by decide) rfl (fun ls hl => ?_)
          refine lv_iload_n hx hb d_S_goThrough_88 rfl (lv_at hl 5 rfl) ?_
          refine nr_if_ne (tgt := 104) hx hb (by omega) d_S_goThrough_89 (by decide) (fun c_89 => ?_) (fun c_89 => by exfalso; omega)
          refine lv_iload_n hx hb d_S_goThrough_104 rfl (lv_at hl 5 rfl) ?_
          refine nr_iconst hx hb 1 d_S_goThrough_105 (by decide) ?_
          refine nr_isub hx hb (by omega) d_S_goThrough_106 ?_
          refine lv_istore_n (lv' := [(3, .int (nI (p1 - 1))), (2, .int (nI d)), (6, .int (nI 1)), (5, .int (nI (d * 6 + p1))), (0, .ref (ad 2)), (1, .ref a), (4, .int (nI t))]) hx hb d_S_goThrough_107 rfl hl (by decide) rfl (fun ls hl => ?_)
          refine lv_goto (tgt := 204) hx hb d_S_goThrough_108 (by decide) ?_
          refine nr_iinc (k := 6) (lv' := [(4, .int (nI (t + 1))), (3, .int (nI (p1 - 1))), (2, .int (nI d)), (6, .int (nI 1)), (5, .int (nI (d * 6 + p1))), (0, .ref (ad 2)), (1, .ref a)]) hx hb d_S_goThrough_204 hl rfl (by decide) rfl (fun ls hl => ?_)
          refine lv_goto (tgt := 14) hx hb d_S_goThrough_207 (by decide) ?_
          exact ih_14 _ _ _ _ _ _ _ _ _ _ _ _ _ (sim_back hsim c_77) (by first | omega | (rw [Nat.add_mul]; omega)) (by omega) (by rw [← hres, srch, if_pos (show (if d < S 0 1 then 0 < nx else 3 < nx) from (sim_ex hsim).mp c_73), if_neg c_77]) (lv_sub hl [5, 6, 2, 1, 0] rfl) hP hD hS
        · rcases Nat.eq_zero_or_pos d with hd0 | hd0
          · refine lv_iload_n hx hb d_S_goThrough_80 rfl (lv_at hl 4 rfl) ?_
            refine nr_iconst hx hb 1 d_S_goThrough_81 (by decide) ?_
            refine lv_isub hx hb d_S_goThrough_82 ?_
            refine lv_goto (tgt := 87) hx hb d_S_goThrough_83 (by decide) ?_
            refine lv_istore_n (lv' := [(2, .int (nI d - nI 1)), (6, .int (nI 1)), (5, .int (nI (d * 6 + p1))), (0, .ref (ad 2)), (1, .ref a), (3, .int (nI p1)), (4, .int (nI t))]) hx hb d_S_goThrough_87 rfl hl (by decide) rfl (fun ls hl => ?_)
            refine lv_iload_n hx hb d_S_goThrough_88 rfl (lv_at hl 5 rfl) ?_
            refine nr_if_ne (tgt := 104) hx hb (by omega) d_S_goThrough_89 (by decide) (fun c_89 => by exfalso; omega) (fun c_89 => ?_)
            refine lv_aload_n hx hb d_S_goThrough_92 rfl (lv_at hl 3 rfl) ?_
            refine va_get (D := D) (ci := 1) (v := .ref (ad 1)) (C := R_S) (T := F_S) (N := 15) hx hb htb u_S hown hK hP 7 rfl rfl 0 (by decide) (htb _ q83) (fun _ h9 => h9) rfl d_S_goThrough_93 ?_
            refine va_getN (D := D) (ci := 0) (v := .int (nI (P 0 0))) (C := R_P) (T := F_P) (N := 12) hx hb htb u_P hown hK hP 0 rfl rfl 0 (by decide) (hN.at q29 rfl rfl) (fun _ h9 => h9) rfl d_S_goThrough_96 ?_
            refine nr_iconst hx hb 1 d_S_goThrough_99 (by decide) ?_
            refine nr_isub hx hb (by omega) d_S_goThrough_100 ?_
            refine lv_goto (tgt := 107) hx hb d_S_goThrough_101 (by decide) ?_
            refine lv_istore_n (lv' := [(3, .int (nI ((P 0 0) - 1))), (2, .int (nI d - nI 1)), (6, .int (nI 1)), (5, .int (nI (d * 6 + p1))), (0, .ref (ad 2)), (1, .ref a), (4, .int (nI t))]) hx hb d_S_goThrough_107 rfl hl (by decide) rfl (fun ls hl => ?_)
            refine lv_goto (tgt := 204) hx hb d_S_goThrough_108 (by decide) ?_
            refine nr_iinc (k := 6) (lv' := [(4, .int (nI (t + 1))), (3, .int (nI ((P 0 0) - 1))), (2, .int (nI d - nI 1)), (6, .int (nI 1)), (5, .int (nI (d * 6 + p1))), (0, .ref (ad 2)), (1, .ref a)]) hx hb d_S_goThrough_204 hl rfl (by decide) rfl (fun ls hl => ?_)
            refine lv_goto (tgt := 14) hx hb d_S_goThrough_207 (by decide) ?_
            refine lv_iload hx hb d_S_goThrough_14 (lv_at hl 0 rfl) ?_
            refine lv_ldc (v := nI 40002) hx hb hown (htb _ q490) d_S_goThrough_16 ?_
            refine nr_icmp_ge (tgt := 210) hx hb (by omega) (by omega) d_S_goThrough_18 (by decide) (fun c_18 => ?_) (fun c_18 => ?_)
            · exact W.vret hx hb hr (fun t ht hW => ⟨⟨S1, rfl, by rw [← hres, srch, if_pos (show (if d < S 0 1 then 0 < nx else 3 < nx) from (sim_ex hsim).mp c_73), if_pos c_77, if_pos hd0]; exact ⟨hok, x05, x02, x03, x4b⟩, by rw [ht]; exact hP, hD⟩, hS.F ht⟩) hS.2.2 d_S_goThrough_210
            · refine lv_iload_n hx hb d_S_goThrough_21 rfl (lv_at hl 2 rfl) ?_
              refine lv_if_lt (tgt := 210) hx hb d_S_goThrough_22 (by decide) (fun c_22 => ?_) (fun c_22 => absurd (by rw [hd0]; decide) c_22)
              exact W.vret hx hb hr (fun t ht hW => ⟨⟨S1, rfl, by rw [← hres, srch, if_pos (show (if d < S 0 1 then 0 < nx else 3 < nx) from (sim_ex hsim).mp c_73), if_pos c_77, if_pos hd0]; exact ⟨hok, x05, x02, x03, x4b⟩, by rw [ht]; exact hP, hD⟩, hS.F ht⟩) hS.2.2 d_S_goThrough_210
          · have hdm := mul_pred (n := P 0 0) hd0
            refine lv_iload_n hx hb d_S_goThrough_80 rfl (lv_at hl 4 rfl) ?_
            refine nr_iconst hx hb 1 d_S_goThrough_81 (by decide) ?_
            refine nr_isub hx hb (by omega) d_S_goThrough_82 ?_
            refine lv_goto (tgt := 87) hx hb d_S_goThrough_83 (by decide) ?_
            refine lv_istore_n (lv' := [(2, .int (nI (d - 1))), (6, .int (nI 1)), (5, .int (nI (d * 6 + p1))), (0, .ref (ad 2)), (1, .ref a), (3, .int (nI p1)), (4, .int (nI t))]) hx hb d_S_goThrough_87 rfl hl (by decide) rfl (fun ls hl => ?_)
            refine lv_iload_n hx hb d_S_goThrough_88 rfl (lv_at hl 5 rfl) ?_
            refine nr_if_ne (tgt := 104) hx hb (by omega) d_S_goThrough_89 (by decide) (fun c_89 => by exfalso; omega) (fun c_89 => ?_)
            refine lv_aload_n hx hb d_S_goThrough_92 rfl (lv_at hl 3 rfl) ?_
            refine va_get (D := D) (ci := 1) (v := .ref (ad 1)) (C := R_S) (T := F_S) (N := 15) hx hb htb u_S hown hK hP 7 rfl rfl 0 (by decide) (htb _ q83) (fun _ h9 => h9) rfl d_S_goThrough_93 ?_
            refine va_getN (D := D) (ci := 0) (v := .int (nI (P 0 0))) (C := R_P) (T := F_P) (N := 12) hx hb htb u_P hown hK hP 0 rfl rfl 0 (by decide) (hN.at q29 rfl rfl) (fun _ h9 => h9) rfl d_S_goThrough_96 ?_
            refine nr_iconst hx hb 1 d_S_goThrough_99 (by decide) ?_
            refine nr_isub hx hb (by omega) d_S_goThrough_100 ?_
            refine lv_goto (tgt := 107) hx hb d_S_goThrough_101 (by decide) ?_
            refine lv_istore_n (lv' := [(3, .int (nI ((P 0 0) - 1))), (2, .int (nI (d - 1))), (6, .int (nI 1)), (5, .int (nI (d * 6 + p1))), (0, .ref (ad 2)), (1, .ref a), (4, .int (nI t))]) hx hb d_S_goThrough_107 rfl hl (by decide) rfl (fun ls hl => ?_)
            refine lv_goto (tgt := 204) hx hb d_S_goThrough_108 (by decide) ?_
            refine nr_iinc (k := 6) (lv' := [(4, .int (nI (t + 1))), (3, .int (nI ((P 0 0) - 1))), (2, .int (nI (d - 1))), (6, .int (nI 1)), (5, .int (nI (d * 6 + p1))), (0, .ref (ad 2)), (1, .ref a)]) hx hb d_S_goThrough_204 hl rfl (by decide) rfl (fun ls hl => ?_)
            refine lv_goto (tgt := 14) hx hb d_S_goThrough_207 (by decide) ?_
            exact ih_14 _ _ _ _ _ _ _ _ _ _ _ _ _ (sim_backd hsim c_77 hd0) (by first | omega | (rw [Nat.add_mul]; omega)) (by omega) (by rw [← hres, srch, if_pos (show (if d < S 0 1 then 0 < nx else 3 < nx) from (sim_ex hsim).mp c_73), if_pos c_77, if_neg (show ¬ d = 0 by omega)]) (lv_sub hl [5, 6, 2, 1, 0] rfl) hP hD hS

set_option maxHeartbeats 4000000 in
set_option maxRecDepth 100000 in
theorem c_M_search (l : Launch) (D : va_G) (am : Nat → Nat) (cm : Nat → ClassId) (P G X : Nat → Nat → Nat) (hP0 : okP P) (hG0 : okG G) (hX0 : okX X) (lim : Nat) (hlim : lim ≤ 20000) (hn : 0 < P 0 0) (hdd : 0 < P 0 1) (z1 : X 0 1 = 1) (z2 : X 0 2 = 0) (z3 : X 0 3 = 0) (zt : X 1 = fun _ => 0) (hut : ∀ tr d p, (∀ k, tr k ≤ 3) → p < P 0 0 → d < P 0 1 → utM P X tr (d * P 0 0 + p) = unm P tr d p) (hb0 : ∀ c, P 5 (c * 4) = 0) (sz : Nat) : Met l y_M_search w_M_search { frames := 3, cells := 0, slots := 0, locals := 73 } (rw_P [.ref (am 0), .int (nI lim)] D (wM am cm P G X) (tM cm) sz) (rw_Qi (fun (r : Int32) (u : Nat → Nat → Nat) => gotX X u (srch P (G 1) (G 0 0) lim 40002 0 0 0 0 0 0 (fun _ => 0) (fun _ => 0)) r) D (wM am cm P G X) (fun u => wM am cm P G u) sz) 0 0 (va_A (wM am cm P G X) sz) := by
  refine Met.ofW (cc := b_M_search) (maxL := 10) (ret := (some .int)) (by decide) rfl ?_
  intro p e s m args below meth c s₁ B hml hv
  obtain ⟨rfl, hsz, hN, hP, hK, hD0⟩ := hv
  have hx := B.exec
  have hb := B.bytes
  have hr := B.returns
  have hts := atoms_spec (ws := w_M_search) B.pre
  have htb : ∀ w ∈ TBG, w.before [.ref (am 0), .int (nI lim)].toArray s = true := fun w h => hts w (List.mem_cons_of_mem _ h)
  have hown : s.vm.findClass R_M = some m.cls := findClass_of_methodNamed B.named
  have hlocks := B.notSynchronized
  subst hsz
  have hD := hD0.self (sz := s.heap.size)
  unfold rw_Qi
  generalize hAe : va_A (wM am cm P G X) s.heap.size = A at hD ⊢
  have hA : ∀ q : Nat, s.heap.size ≤ q → A q := fun q h => by rw [← hAe]; exact Or.inr h
  have hS : va_S A s.heap s.heap [] := va_S.rf
  have hl := lv_entry ([.ref (am 0), .int (nI lim)]) (n := 10) (Nat.le_of_ble_eq_true rfl)
  rw [lg_entry_eq]
  generalize (lg_sl ([.ref (am 0), .int (nI lim)]) ++ List.replicate (10 - (lg_sl ([.ref (am 0), .int (nI lim)])).length) Slot.unset).toArray = ls at hl ⊢
  have hl : lv_has ls 10 [(0, .ref (am 0)), (1, .int (nI lim))] := hl
  refine nr_start hP hS (fun H locs hP hS => ?_)
  obtain ⟨h00, h01, h02, h03, h04, h05, hp1, hp2, hp3, hp4, hp5, hp6⟩ := id hP0
  obtain ⟨k00, k01, hg1, hg2⟩ := id hG0
  obtain ⟨x00, x01, x02, x03, hx1, hx2, hx3, hx4, hx5, hx6, hx7⟩ := id hX0
  have hmn : P 0 0 * P 0 1 ≤ 6 * 7 := Nat.mul_le_mul h00 h01
  have hmp : 0 < P 0 0 * P 0 1 := Nat.mul_pos hn hdd
  refine lv_iconst (v := -1) hx hb d_M_search_0 (by decide) ?_
  refine lv_istore_n (lv' := [(2, .int (-1)), (0, .ref (am 0)), (1, .int (nI lim))]) hx hb d_M_search_1 rfl hl (by decide) rfl (fun ls hl => ?_)
  refine nr_iconst hx hb 0 d_M_search_2 (by decide) ?_
  refine lv_istore_n (lv' := [(3, .int (nI 0)), (2, .int (-1)), (0, .ref (am 0)), (1, .int (nI lim))]) hx hb d_M_search_3 rfl hl (by decide) rfl (fun ls hl => ?_)
  refine lv_aload_n hx hb d_M_search_4 rfl (lv_at hl 2 rfl) ?_
  refine va_get (D := D) (ci := 3) (v := .int (nI (P 0 0))) (C := R_M) (T := F_M) (N := 26) hx hb htb u_M hown hK hP 0 rfl rfl 1 (by decide) (htb _ q580) (fun _ h9 => h9) rfl d_M_search_5 ?_
  refine lv_aload_n hx hb d_M_search_8 rfl (lv_at hl 2 rfl) ?_
  refine va_get (D := D) (ci := 3) (v := .int (nI (P 0 1))) (C := R_M) (T := F_M) (N := 26) hx hb htb u_M hown hK hP 0 rfl rfl 2 (by decide) (htb _ q581) (fun _ h9 => h9) rfl d_M_search_9 ?_
  refine nr_imul hx hb d_M_search_12 ?_
  refine nr_iconst hx hb 1 d_M_search_13 (by decide) ?_
  refine nr_isub hx hb (by omega) d_M_search_14 ?_
  refine lv_istore (lv' := [(4, .int (nI (((P 0 0) * (P 0 1)) - 1))), (3, .int (nI 0)), (2, .int (-1)), (0, .ref (am 0)), (1, .int (nI lim))]) hx hb d_M_search_15 hl (by decide) rfl (fun ls hl => ?_)
  refine nr_iconst hx hb 0 d_M_search_17 (by decide) ?_
  refine lv_istore (lv' := [(5, .int (nI 0)), (4, .int (nI (((P 0 0) * (P 0 1)) - 1))), (3, .int (nI 0)), (2, .int (-1)), (0, .ref (am 0)), (1, .int (nI lim))]) hx hb d_M_search_18 hl (by decide) rfl (fun ls hl => ?_)
  replace hP : ∃ (k d p1 pl nx st rt le : Nat) (lv : Int32) (be : Nat → Nat) (X1 : Nat → Nat → Nat), (pl = d * P 0 0 + p1) ∧ (p1 < P 0 0) ∧ (d < P 0 1) ∧ (Mi lim X X1 st rt le lv be) ∧ (nx ≤ 4) ∧ (2 * (lim - st) + pl + 2 ≤ k) ∧ (srch P (G 1) (G 0 0) lim k d p1 nx st rt le (X1 1) be = srch P (G 1) (G 0 0) lim 40002 0 0 0 0 0 0 (fun _ => 0) (fun _ => 0)) ∧ lv_has ls 10 [(0, .ref (am 0)), (1, .int (nI lim)), (2, .int lv), (3, .int (nI pl)), (4, .int (nI (P 0 0 * P 0 1 - 1))), (5, .int (nI nx))] ∧ va_P D cls (wM am cm P G X1) H ∧ va_D A (wM am cm P G X1) ∧ va_S A s.heap H locs := ⟨40002, 0, 0, 0, 0, 0, 0, 0, -1, fun _ => 0, X, (by omega), hn, hdd, mi_start hlim hX0 z1 z2 z3, (by omega), (by omega), (by rw [zt]), lv_sub hl [4, 5, 3, 2, 1, 0] rfl, hP, hD, hS⟩
  clear hl hD hS
  obtain ⟨k, d, p1, pl, nx, st, rt, le, lv, be, X1, hpl, hpn, hdn, hmi, hnx, hfu, hres, hl, hP, hD, hS⟩ := hP
  induction k generalizing d p1 pl nx st rt le lv be X1 ls H locs with
  | zero => exfalso; omega
  | succ k ih_20 =>
    obtain ⟨hX1, y2, y3, y1, y0, hle, hbe, hkeep, htr⟩ := id hmi
    obtain ⟨x00, x01, x02, x03, hx1, hx2, hx3, hx4, hx5, hx6, hx7⟩ := id hX1
    have hdv : pl / P 0 0 = d := by rw [hpl]; exact dv_n hpn
    have hmd : pl % P 0 0 = p1 := by rw [hpl]; exact md_n hpn
    have hmul : d * P 0 0 ≤ 6 * 6 := Nat.mul_le_mul (by omega) h00
    refine lv_iload_n hx hb d_M_search_20 rfl (lv_at hl 3 rfl) ?_
    refine nr_if_lt (tgt := 278) hx hb (by omega) d_M_search_21 (by decide) (fun c_21 => c_21.elim) (fun c_21 => ?_)
    refine nr_bipush hx hb 6 d_M_search_24 (by decide) ?_
    refine lv_iload_n hx hb d_M_search_26 rfl (lv_at hl 3 rfl) ?_
    refine lv_aload_n hx hb d_M_search_27 rfl (lv_at hl 0 rfl) ?_
    refine va_get (D := D) (ci := 3) (v := .int (nI (P 0 0))) (C := R_M) (T := F_M) (N := 26) hx hb htb u_M hown hK hP 0 rfl rfl 1 (by decide) (htb _ q580) (fun _ h9 => h9) rfl d_M_search_28 ?_
    refine nr_idiv hx hb (by omega) (by omega) (by omega) d_M_search_31 ?_
    refine nr_top (y := nI d) (congrArg nI hdv) ?_
    refine nr_imul hx hb d_M_search_32 ?_
    refine nr_top (y := nI (d * 6)) (congrArg nI (Nat.mul_comm _ _)) ?_
    refine lv_iload_n hx hb d_M_search_33 rfl (lv_at hl 3 rfl) ?_
    refine lv_aload_n hx hb d_M_search_34 rfl (lv_at hl 0 rfl) ?_
    refine va_get (D := D) (ci := 3) (v := .int (nI (P 0 0))) (C := R_M) (T := F_M) (N := 26) hx hb htb u_M hown hK hP 0 rfl rfl 1 (by decide) (htb _ q580) (fun _ h9 => h9) rfl d_M_search_35 ?_
    refine nr_irem hx hb (by omega) (by omega) (by omega) d_M_search_38 ?_
    refine nr_top (y := nI p1) (congrArg nI hmd) ?_
    refine nr_iadd hx hb d_M_search_39 ?_
    refine lv_istore (lv' := [(6, .int (nI ((d * 6) + p1))), (0, .ref (am 0)), (1, .int (nI lim)), (2, .int lv), (3, .int (nI pl)), (4, .int (nI (P 0 0 * P 0 1 - 1))), (5, .int (nI nx))]) hx hb d_M_search_40 hl (by decide) rfl (fun ls hl => ?_)
    refine lv_iload_n hx hb d_M_search_42 rfl (lv_at hl 4 rfl) ?_
    refine lv_aload_n hx hb d_M_search_43 rfl (lv_at hl 1 rfl) ?_
    refine va_get (D := D) (ci := 3) (v := .int (nI (P 0 0))) (C := R_M) (T := F_M) (N := 26) hx hb htb u_M hown hK hP 0 rfl rfl 1 (by decide) (htb _ q580) (fun _ h9 => h9) rfl d_M_search_44 ?_
    refine nr_idiv hx hb (by omega) (by omega) (by omega) d_M_search_47 ?_
    refine nr_top (y := nI d) (congrArg nI hdv) ?_
    refine lv_aload_n hx hb d_M_search_48 rfl (lv_at hl 1 rfl) ?_
    refine va_get (D := D) (ci := 3) (v := .int (nI (G 0 0))) (C := R_M) (T := F_M) (N := 26) hx hb htb u_M hown hK hP 0 rfl rfl 3 (by decide) (htb _ q582) (fun _ h9 => h9) rfl d_M_search_49 ?_
    refine nr_icmp_ge (tgt := 59) hx hb (by omega) (by omega) d_M_search_52 (by decide) (fun c_52 => ?_) (fun c_52 => ?_)
    · refine nr_iconst hx hb 0 d_M_search_59 (by decide) ?_
      refine lv_istore (lv' := [(7, .int (nI 0)), (6, .int (nI ((d * 6) + p1))), (0, .ref (am 0)), (1, .int (nI lim)), (2, .int lv), (3, .int (nI pl)), (4, .int (nI (P 0 0 * P 0 1 - 1))), (5, .int (nI nx))]) hx hb d_M_search_60 hl (by decide) rfl (fun ls hl => ?_)
      refine lv_iload hx hb d_M_search_62 (lv_at hl 0 rfl) ?_
      refine nr_if_eq (tgt := 77) hx hb (by omega) d_M_search_64 (by decide) (fun c_64 => ?_) (fun c_64 => by exfalso; omega)
      refine lv_iload hx hb d_M_search_77 (lv_at hl 7 rfl) ?_
      refine lv_istore (lv' := [(8, .int (nI nx)), (7, .int (nI 0)), (6, .int (nI ((d * 6) + p1))), (0, .ref (am 0)), (1, .int (nI lim)), (2, .int lv), (3, .int (nI pl)), (4, .int (nI (P 0 0 * P 0 1 - 1))), (5, .int (nI nx))]) hx hb d_M_search_79 hl (by decide) rfl (fun ls hl => ?_)
      refine lv_iload hx hb d_M_search_81 (lv_at hl 1 rfl) ?_
      refine nr_if_eq (tgt := 94) hx hb (by omega) d_M_search_83 (by decide) (fun c_83 => ?_) (fun c_83 => by exfalso; omega)
      refine lv_iload hx hb d_M_search_94 (lv_at hl 8 rfl) ?_
      refine nr_iconst hx hb 3 d_M_search_96 (by decide) ?_
      refine nr_icmp_le (tgt := 152) hx hb (by omega) (by omega) d_M_search_97 (by decide) (fun c_97 => ?_) (fun c_97 => ?_)
      · refine lv_aload_n hx hb d_M_search_152 rfl (lv_at hl 3 rfl) ?_
        refine va_get (D := D) (ci := 3) (v := .int (nI (X1 0 2))) (C := R_M) (T := F_M) (N := 26) hx hb htb u_M hown hK hP 0 rfl rfl 24 (by decide) (htb _ q603) (fun _ h9 => h9) rfl d_M_search_153 ?_
        refine lv_iload_n hx hb d_M_search_156 rfl (lv_at hl 4 rfl) ?_
        refine nr_icmp_ne (tgt := 167) hx hb (by omega) (by omega) d_M_search_157 (by decide) (fun c_157 => ?_) (fun c_157 => ?_)
        · refine lv_aload_n hx hb d_M_search_167 rfl (lv_at hl 3 rfl) ?_
          refine lv_dup hx hb d_M_search_168 rfl ?_
          refine va_get (D := D) (ci := 3) (v := .int (nI (X1 0 2))) (C := R_M) (T := F_M) (N := 26) hx hb htb u_M hown hK hP 0 rfl rfl 24 (by decide) (htb _ q603) (fun _ h9 => h9) rfl d_M_search_169 ?_
          refine nr_iconst hx hb 1 d_M_search_172 (by decide) ?_
          refine nr_iadd hx hb d_M_search_173 ?_
          refine va_put (D := D) (ci := 3) (v := .int (nI ((X1 0 2) + 1))) (ty := .int) (C := R_M) (T := F_M) (N := 26) hx hb htb u_M t_M t_M_ok n_M hown hK hP hD hS 0 rfl rfl 24 (by decide) (htb _ q603) (fun _ h9 => h9) rfl (by decide +kernel) rfl rfl (Nat.le_of_ble_eq_true rfl) d_M_search_174 (fun H locs hP hD hS => ?_)
          replace hP : va_P D cls (wM am cm P G (up2 X1 0 2 ((X1 0 2) + 1))) H := hP
          replace hD : va_D A (wM am cm P G (up2 X1 0 2 ((X1 0 2) + 1))) := hD
          refine lv_aload_n hx hb d_M_search_177 rfl (lv_at hl 3 rfl) ?_
          refine va_get (D := D) (ci := 3) (v := .ref (am 4)) (C := R_M) (T := F_M) (N := 26) hx hb htb u_M hown hK hP 0 rfl rfl 7 (by decide) (htb _ q586) (fun _ h9 => h9) rfl d_M_search_178 ?_
          refine lv_iload hx hb d_M_search_181 (lv_at hl 2 rfl) ?_
          refine lv_iload hx hb d_M_search_183 (lv_at hl 0 rfl) ?_
          refine nr_iast hx hb hK hP hD hS 4 3 rfl rfl (by omega) (by decide) d_M_search_185 (fun H locs hP hD hS => ?_)
          replace hP : va_P D cls (wM am cm P G (up2 (up2 X1 0 2 ((X1 0 2) + 1)) 1 ((d * 6) + p1) nx)) H := hP
          replace hD : va_D A (wM am cm P G (up2 (up2 X1 0 2 ((X1 0 2) + 1)) 1 ((d * 6) + p1) nx)) := hD
          refine lv_iload hx hb d_M_search_186 (lv_at hl 1 rfl) ?_
          refine nr_if_eq (tgt := 195) hx hb (by omega) d_M_search_188 (by decide) (fun c_188 => ?_) (fun c_188 => by exfalso; omega)
          refine lv_iload hx hb d_M_search_195 (lv_at hl 0 rfl) ?_
          refine nr_iconst hx hb 1 d_M_search_197 (by decide) ?_
          refine nr_iadd hx hb d_M_search_198 ?_
          refine lv_istore (lv' := [(5, .int (nI (nx + 1))), (8, .int (nI nx)), (7, .int (nI 0)), (6, .int (nI ((d * 6) + p1))), (0, .ref (am 0)), (1, .int (nI lim)), (2, .int lv), (3, .int (nI pl)), (4, .int (nI (P 0 0 * P 0 1 - 1)))]) hx hb d_M_search_199 hl (by decide) rfl (fun ls hl => ?_)
          have hsv3 : nx ≤ 3 := by omega
          have hs_ : (if d < G 0 0 then G 1 (d * 6 + p1) else nx) = nx := by rw [if_neg (Nat.not_lt.mpr c_52)]
          have hn_ : (if d < G 0 0 then 1 else nx + 1) = nx + 1 := by rw [if_neg (Nat.not_lt.mpr c_52)]
          have hmi2 := mi_try (d * 6 + p1) hmi (by omega) hsv3
          have hX2 : okX (up2 (up2 X1 0 2 (X1 0 2 + 1)) 1 (d * 6 + p1) nx) := hmi2.1
          have hX2t : ∀ k, (up2 (up2 X1 0 2 (X1 0 2 + 1)) 1 (d * 6 + p1) nx) 1 k ≤ 3 := hX2.2.2.2.2.1
          have hutk : utM P (up2 (up2 X1 0 2 (X1 0 2 + 1)) 1 (d * 6 + p1) nx) ((up2 (up2 X1 0 2 (X1 0 2 + 1)) 1 (d * 6 + p1) nx) 1) pl = unm P (up1 (X1 1) (d * 6 + p1) nx) d p1 := by rw [utM_congr hmi2.2.2.2.2.2.2.2.1, hpl]; exact hut _ d p1 hX2t hpn hdn
          refine lv_aload_n hx hb d_M_search_201 rfl (lv_at hl 4 rfl) ?_
          refine lv_iload_n hx hb d_M_search_202 rfl (lv_at hl 7 rfl) ?_
          refine lv_iload_n hx hb d_M_search_203 rfl (lv_at hl 6 rfl) ?_
          refine nr_calli (va_runV (As := [.int (nI pl), .int lv]) (rest := []) ⟨hx, hb, hml, hown, hts⟩ (c_M_givesUp l D am cm P G (up2 (up2 X1 0 2 ((X1 0 2) + 1)) 1 ((d * 6) + p1) nx) hP0 hG0 hX2 d p1 rt le pl lv hpn hdn hpl hmi2.2.2.2.2.2.1 hutk hb0) ⟨callB_of 2 hts (gTB q_M_givesUp) rfl rfl rfl (htb _ q4) (htb _ q725) hd_M_givesUp ⟨Nat.le_of_ble_eq_true rfl, Nat.le_of_ble_eq_true rfl⟩, (htb _ q727), (htb _ sel_M_givesUp)⟩ ⟨ro_blind, va_recv (hK.sub (tys' := []) [] rfl) hP (ci := 3) (q0 := 0) rfl rfl, ro_pre hN (hP.sub (ws' := (wM am cm P G (up2 (up2 X1 0 2 ((X1 0 2) + 1)) 1 ((d * 6) + p1) nx))) [0, 1, 2, 3, 4, 5, 6, 7, 8, 9, 10, 11, 12, 13, 14] rfl) (hK.sub (tys' := (tM cm)) [0, 1, 2, 3, 4, 5, 6, 7, 8, 9, 10, 11, 12, 13] rfl)⟩ rfl rfl hl.1 rfl (lv_room (Nat.le_of_ble_eq_true rfl)) d_M_search_204 ⟨Nat.le_of_ble_eq_true rfl, Nat.le_of_ble_eq_true rfl⟩) (fun r_1 hr_1 => ?_)
          subst hr_1
          refine nr_top (y := nI (if gu P (up1 (X1 1) (d * 6 + p1) nx) d p1 rt le = true then 1 else 0)) rfl ?_
          refine nr_if_ne (tgt := 275) hx hb b01_lt d_M_search_207 (by decide) (fun c_207 => ?_) (fun c_207 => ?_)
          · refine lv_goto (tgt := 20) hx hb d_M_search_275 (by decide) ?_
            exact ih_20 (d := d) (p1 := p1) _ _ _ _ _ _ _ _ _ _ _ hpl hpn (by omega) hmi2 (by omega) (by omega) (by rw [← hres, srch, if_neg (show ¬ (if d < G 0 0 then 0 < nx else 3 < nx) by rw [if_neg (Nat.not_lt.mpr c_52)]; omega), if_neg (show ¬ st = lim by omega), hs_, hn_, if_pos (b01_nz c_207)]; rfl) (lv_sub hl [4, 5, 6, 7, 8, 0] rfl) hP hD hS
          · refine lv_iload_n hx hb d_M_search_210 rfl (lv_at hl 7 rfl) ?_
            refine lv_iload hx hb d_M_search_211 (lv_at hl 8 rfl) ?_
            refine nr_icmp_ne (tgt := 269) hx hb (by omega) (by omega) d_M_search_213 (by decide) (fun c_213 => ?_) (fun c_213 => ?_)
            · rcases Nat.lt_or_ge (p1 + 1) (P 0 0) with hpp | hpp
              · refine nr_iinc (k := 7) (lv' := [(3, .int (nI (pl + 1))), (5, .int (nI (nx + 1))), (8, .int (nI nx)), (7, .int (nI 0)), (6, .int (nI ((d * 6) + p1))), (0, .ref (am 0)), (1, .int (nI lim)), (2, .int lv), (4, .int (nI (P 0 0 * P 0 1 - 1)))]) hx hb d_M_search_269 hl rfl (by decide) rfl (fun ls hl => ?_)
                refine nr_iconst hx hb 0 d_M_search_272 (by decide) ?_
                refine lv_istore (lv' := [(5, .int (nI 0)), (3, .int (nI (pl + 1))), (8, .int (nI nx)), (7, .int (nI 0)), (6, .int (nI ((d * 6) + p1))), (0, .ref (am 0)), (1, .int (nI lim)), (2, .int lv), (4, .int (nI (P 0 0 * P 0 1 - 1)))]) hx hb d_M_search_273 hl (by decide) rfl (fun ls hl => ?_)
                refine lv_goto (tgt := 20) hx hb d_M_search_275 (by decide) ?_
                exact ih_20 (d := d) (p1 := p1 + 1) _ _ _ _ _ _ _ _ _ _ _ (by omega) (by omega) (by omega) hmi2 (by omega) (by omega) (by rw [← hres, srch, if_neg (show ¬ (if d < G 0 0 then 0 < nx else 3 < nx) by rw [if_neg (Nat.not_lt.mpr c_52)]; omega), if_neg (show ¬ st = lim by omega), hs_, hn_, if_neg (b01_z c_207), if_neg (show ¬ p1 = P 0 0 - 1 by omega)]; rfl) (lv_sub hl [5, 6, 7, 1, 8, 0] rfl) hP hD hS
              · have hnl : d ≠ P 0 1 - 1 := fun h => c_213 (hpl.trans ((last_iff hpn hdn).mpr ⟨by omega, h⟩))
                have hma : (d + 1) * P 0 0 = d * P 0 0 + P 0 0 := by rw [Nat.add_mul, Nat.one_mul]
                refine nr_iinc (k := 7) (lv' := [(3, .int (nI (pl + 1))), (5, .int (nI (nx + 1))), (8, .int (nI nx)), (7, .int (nI 0)), (6, .int (nI ((d * 6) + p1))), (0, .ref (am 0)), (1, .int (nI lim)), (2, .int lv), (4, .int (nI (P 0 0 * P 0 1 - 1)))]) hx hb d_M_search_269 hl rfl (by decide) rfl (fun ls hl => ?_)
                refine nr_iconst hx hb 0 d_M_search_272 (by decide) ?_
                refine lv_istore (lv' := [(5, .int (nI 0)), (3, .int (nI (pl + 1))), (8, .int (nI nx)), (7, .int (nI 0)), (6, .int (nI ((d * 6) + p1))), (0, .ref (am 0)), (1, .int (nI lim)), (2, .int lv), (4, .int (nI (P 0 0 * P 0 1 - 1)))]) hx hb d_M_search_273 hl (by decide) rfl (fun ls hl => ?_)
                refine lv_goto (tgt := 20) hx hb d_M_search_275 (by decide) ?_
                exact ih_20 (d := d + 1) (p1 := 0) _ _ _ _ _ _ _ _ _ _ _ (by omega) (by omega) (by omega) hmi2 (by omega) (by omega) (by rw [← hres, srch, if_neg (show ¬ (if d < G 0 0 then 0 < nx else 3 < nx) by rw [if_neg (Nat.not_lt.mpr c_52)]; omega), if_neg (show ¬ st = lim by omega), hs_, hn_, if_neg (b01_z c_207), if_pos (show p1 = P 0 0 - 1 by omega), if_neg hnl]; rfl) (lv_sub hl [5, 6, 7, 1, 8, 0] rfl) hP hD hS
            · refine lv_aload_n hx hb d_M_search_216 rfl (lv_at hl 4 rfl) ?_
              refine lv_dup hx hb d_M_search_217 rfl ?_
              refine va_get (D := D) (ci := 3) (v := .int (nI (X1 0 3))) (C := R_M) (T := F_M) (N := 26) hx hb htb u_M hown hK hP 0 rfl rfl 25 (by decide) (htb _ q604) (fun _ h9 => h9) rfl d_M_search_218 ?_
              refine nr_iconst hx hb 1 d_M_search_221 (by decide) ?_
              refine nr_iadd hx hb d_M_search_222 ?_
              refine va_put (D := D) (ci := 3) (v := .int (nI ((X1 0 3) + 1))) (ty := .int) (C := R_M) (T := F_M) (N := 26) hx hb htb u_M t_M t_M_ok n_M hown hK hP hD hS 0 rfl rfl 25 (by decide) (htb _ q604) (fun _ h9 => h9) rfl (by decide +kernel) rfl rfl (Nat.le_of_ble_eq_true rfl) d_M_search_223 (fun H locs hP hD hS => ?_)
              replace hP : va_P D cls (wM am cm P G (up2 (up2 (up2 X1 0 2 ((X1 0 2) + 1)) 1 ((d * 6) + p1) nx) 0 3 ((X1 0 3) + 1))) H := hP
              replace hD : va_D A (wM am cm P G (up2 (up2 (up2 X1 0 2 ((X1 0 2) + 1)) 1 ((d * 6) + p1) nx) 0 3 ((X1 0 3) + 1))) := hD
              refine lv_aload_n hx hb d_M_search_226 rfl (lv_at hl 4 rfl) ?_
              refine lv_aload_n hx hb d_M_search_227 rfl (lv_at hl 4 rfl) ?_
              refine va_get (D := D) (ci := 3) (v := .ref (am 4)) (C := R_M) (T := F_M) (N := 26) hx hb htb u_M hown hK hP 0 rfl rfl 7 (by decide) (htb _ q586) (fun _ h9 => h9) rfl d_M_search_228 ?_
              refine lv_iload_n hx hb d_M_search_231 rfl (lv_at hl 7 rfl) ?_
              have hX3o : okX (up2 (up2 (up2 X1 0 2 ((X1 0 2) + 1)) 1 ((d * 6) + p1) nx) 0 3 ((X1 0 3) + 1)) := okx_r hX2 (by show X1 0 3 + 1 ≤ 40000; omega)
              have hutk3 : utM P (up2 (up2 (up2 X1 0 2 ((X1 0 2) + 1)) 1 ((d * 6) + p1) nx) 0 3 ((X1 0 3) + 1)) ((up2 (up2 (up2 X1 0 2 ((X1 0 2) + 1)) 1 ((d * 6) + p1) nx) 0 3 ((X1 0 3) + 1)) 1) pl = unm P (up1 (X1 1) (d * 6 + p1) nx) d p1 := (utM_congr (X := up2 (up2 X1 0 2 (X1 0 2 + 1)) 1 (d * 6 + p1) nx) (fun r hr => by funext k; simp only [up2]; rw [if_neg (show ¬ r = 0 by omega)])).trans hutk
              refine nr_calli (va_runV (As := [.ref (am 4), .int (nI pl)]) (rest := []) ⟨hx, hb, hml, hown, hts⟩ (c_M_unmetTo l D am cm P G (up2 (up2 (up2 X1 0 2 ((X1 0 2) + 1)) 1 ((d * 6) + p1) nx) 0 3 ((X1 0 3) + 1)) (am 4) (cm 3) ((up2 (up2 (up2 X1 0 2 ((X1 0 2) + 1)) 1 ((d * 6) + p1) nx) 0 3 ((X1 0 3) + 1)) 1) hP0 hG0 hX3o hX2t pl (by omega)) ⟨callB_of 2 hts (gTB q_M_unmetTo) rfl rfl rfl (htb _ q4) (htb _ q742) hd_M_unmetTo ⟨Nat.le_of_ble_eq_true rfl, Nat.le_of_ble_eq_true rfl⟩, (htb _ q744), (htb _ sel_M_unmetTo)⟩ ⟨ro_blind, va_recv (hK.sub (tys' := []) [] rfl) hP (ci := 3) (q0 := 0) rfl rfl, ro_pre hN (hP.sub (ws' := (wMS am cm P G (up2 (up2 (up2 X1 0 2 ((X1 0 2) + 1)) 1 ((d * 6) + p1) nx) 0 3 ((X1 0 3) + 1)) (am 4) (cm 3) ((up2 (up2 (up2 X1 0 2 ((X1 0 2) + 1)) 1 ((d * 6) + p1) nx) 0 3 ((X1 0 3) + 1)) 1))) [0, 1, 2, 3, 4, 5, 6, 7, 8, 9, 10, 11, 12, 13, 14, 4] rfl) (hK.sub (tys' := (tMS cm (cm 3))) [0, 1, 2, 3, 4, 5, 6, 7, 8, 9, 10, 11, 12, 13, 3] rfl)⟩ rfl rfl hl.1 rfl (lv_room (Nat.le_of_ble_eq_true rfl)) d_M_search_232 ⟨Nat.le_of_ble_eq_true rfl, Nat.le_of_ble_eq_true rfl⟩) (fun r_2 hr_2 => ?_)
              subst hr_2
              refine nr_top (y := nI (unm P (up1 (X1 1) (d * 6 + p1) nx) d p1)) (congrArg nI hutk3) ?_
              refine lv_istore_n (lv' := [(2, .int (nI (unm P (up1 (X1 1) (d * 6 + p1) nx) d p1))), (5, .int (nI (nx + 1))), (8, .int (nI nx)), (7, .int (nI 0)), (6, .int (nI ((d * 6) + p1))), (0, .ref (am 0)), (1, .int (nI lim)), (3, .int (nI pl)), (4, .int (nI (P 0 0 * P 0 1 - 1)))]) hx hb d_M_search_235 rfl hl (by decide) rfl (fun ls hl => ?_)
              have hunl := unm_le hP0 (up1 (X1 1) (d * 6 + p1) nx) d p1 (by omega) hpn
              have hlast := (last_iff hpn hdn).mp (hpl.symm.trans c_213)
              have hmi3 : Mi lim X (upr (up2 (up2 (up2 X1 0 2 ((X1 0 2) + 1)) 1 ((d * 6) + p1) nx) 0 3 ((X1 0 3) + 1)) 2 ((up2 (up2 (up2 X1 0 2 ((X1 0 2) + 1)) 1 ((d * 6) + p1) nx) 0 3 ((X1 0 3) + 1)) 1)) (st + 1) (rt + 1) (unm P (up1 (X1 1) (d * 6 + p1) nx) d p1) (nI (unm P (up1 (X1 1) (d * 6 + p1) nx) d p1)) (up1 (X1 1) (d * 6 + p1) nx) := mi_keep hmi2 (by omega) hunl
              have hX3t : (up2 (up2 (up2 X1 0 2 ((X1 0 2) + 1)) 1 ((d * 6) + p1) nx) 0 3 ((X1 0 3) + 1)) 1 = up1 (X1 1) (d * 6 + p1) nx := rfl
              generalize hX3 : up2 (up2 (up2 X1 0 2 ((X1 0 2) + 1)) 1 ((d * 6) + p1) nx) 0 3 ((X1 0 3) + 1) = X3 at hP hD hmi3 hX3t
              refine nr_iconst hx hb 0 d_M_search_236 (by decide) ?_
              refine lv_istore (lv' := [(9, .int (nI 0)), (2, .int (nI (unm P (up1 (X1 1) (d * 6 + p1) nx) d p1))), (5, .int (nI (nx + 1))), (8, .int (nI nx)), (7, .int (nI 0)), (6, .int (nI ((d * 6) + p1))), (0, .ref (am 0)), (1, .int (nI lim)), (3, .int (nI pl)), (4, .int (nI (P 0 0 * P 0 1 - 1)))]) hx hb d_M_search_237 hl (by decide) rfl (fun ls hl => ?_)
              replace hP : ∃ (k2 i : Nat) (X4 : Nat → Nat → Nat), (i + k2 = 42) ∧ (∀ j, j < i → X4 2 j = X3 1 j) ∧ (∀ r, r ≠ 2 → X4 r = X3 r) ∧ lv_has ls 10 [(0, .ref (am 0)), (1, .int (nI lim)), (2, .int (nI (unm P (up1 (X1 1) (d * 6 + p1) nx) d p1))), (3, .int (nI pl)), (4, .int (nI (P 0 0 * P 0 1 - 1))), (5, .int (nI (nx + 1))), (9, .int (nI i))] ∧ va_P D cls (wM am cm P G X4) H ∧ va_D A (wM am cm P G X4) ∧ va_S A s.heap H locs := ⟨42, 0, X3, rfl, fun j h => absurd h (Nat.not_lt_zero j), fun _ _ => rfl, lv_sub hl [6, 7, 1, 8, 9, 2, 0] rfl, hP, hD, hS⟩
              clear hl hD hS
              obtain ⟨k2, i, X4, hk2, hcp, hrr, hl, hP, hD, hS⟩ := hP
              induction k2 generalizing i X4 ls H locs with
              | zero =>
                refine lv_iload hx hb d_M_search_239 (lv_at hl 6 rfl) ?_
                refine nr_bipush hx hb 42 d_M_search_241 (by decide) ?_
                refine nr_icmp_ge (tgt := 266) hx hb (by omega) (by omega) d_M_search_243 (by decide) (fun c_243 => ?_) (fun c_243 => by exfalso; omega)
                obtain ⟨hP, hD⟩ := nr_swap (q0 := 5) (g := fun k => nI (X3 1 k)) hP hD rfl (fun j hj => by rw [hcp j (by omega)])
                have e0 := hrr 0 (by decide)
                have e1 := hrr 1 (by decide)
                have e3 := hrr 3 (by decide)
                have e4 := hrr 4 (by decide)
                have e5 := hrr 5 (by decide)
                have e6 := hrr 6 (by decide)
                have e7 := hrr 7 (by decide)
                have hP : va_P D cls (wM am cm P G (upr X3 2 (X3 1))) H := by have h9 := hP; simp only [wM, List.set, e0, e1, e3, e4, e5, e6, e7] at h9; exact h9
                have hD : va_D A (wM am cm P G (upr X3 2 (X3 1))) := by have h9 := hD; simp only [wM, List.set, e0, e1, e3, e4, e5, e6, e7] at h9; exact h9
                refine lv_goto (tgt := 275) hx hb d_M_search_266 (by decide) ?_
                refine lv_goto (tgt := 20) hx hb d_M_search_275 (by decide) ?_
                exact ih_20 (d := d) (p1 := p1) _ _ _ _ _ _ _ _ _ _ _ hpl hpn (by omega) hmi3 (by omega) (by omega) (by rw [← hres, srch, if_neg (show ¬ (if d < G 0 0 then 0 < nx else 3 < nx) by rw [if_neg (Nat.not_lt.mpr c_52)]; omega), if_neg (show ¬ st = lim by omega), hs_, hn_, if_neg (b01_z c_207), if_pos hlast.1, if_pos hlast.2]; show srch P (G 1) (G 0 0) lim k d p1 _ _ _ _ (X3 1) _ = _; rw [hX3t]) (lv_sub hl [0, 1, 2, 3, 4, 5] rfl) hP hD hS
              | succ k2 ih_239 =>
                refine lv_iload hx hb d_M_search_239 (lv_at hl 6 rfl) ?_
                refine nr_bipush hx hb 42 d_M_search_241 (by decide) ?_
                refine nr_icmp_ge (tgt := 266) hx hb (by omega) (by omega) d_M_search_243 (by decide) (fun c_243 => by exfalso; omega) (fun c_243 => ?_)
                refine lv_aload_n hx hb d_M_search_246 rfl (lv_at hl 0 rfl) ?_
                refine va_get (D := D) (ci := 3) (v := .ref (am 5)) (C := R_M) (T := F_M) (N := 26) hx hb htb u_M hown hK hP 0 rfl rfl 8 (by decide) (htb _ q587) (fun _ h9 => h9) rfl d_M_search_247 ?_
                refine lv_iload hx hb d_M_search_250 (lv_at hl 6 rfl) ?_
                refine lv_aload_n hx hb d_M_search_252 rfl (lv_at hl 0 rfl) ?_
                refine va_get (D := D) (ci := 3) (v := .ref (am 4)) (C := R_M) (T := F_M) (N := 26) hx hb htb u_M hown hK hP 0 rfl rfl 7 (by decide) (htb _ q586) (fun _ h9 => h9) rfl d_M_search_253 ?_
                refine lv_iload hx hb d_M_search_256 (lv_at hl 6 rfl) ?_
                refine nr_iald hx hb hK hP 4 3 rfl rfl (by omega) (by decide) d_M_search_258 ?_
                have hv_3 := hx1 i
                refine nr_iast hx hb hK hP hD hS 5 4 rfl rfl (by omega) (by decide) d_M_search_259 (fun H locs hP hD hS => ?_)
                replace hP : va_P D cls (wM am cm P G (up2 X4 2 i (X4 1 i))) H := hP
                replace hD : va_D A (wM am cm P G (up2 X4 2 i (X4 1 i))) := hD
                refine nr_iinc (k := 6) (lv' := [(9, .int (nI (i + 1))), (0, .ref (am 0)), (1, .int (nI lim)), (2, .int (nI (unm P (up1 (X1 1) (d * 6 + p1) nx) d p1))), (3, .int (nI pl)), (4, .int (nI (P 0 0 * P 0 1 - 1))), (5, .int (nI (nx + 1)))]) hx hb d_M_search_260 hl rfl (by decide) rfl (fun ls hl => ?_)
                refine lv_goto (tgt := 239) hx hb d_M_search_263 (by decide) ?_
                exact ih_239 _ _ _ _ _ (by omega) (fun j h => by show (if j = i then X4 1 i else X4 2 j) = X3 1 j; split; (rename_i hj; rw [hj, congrFun (hrr 1 (by decide)) i]); exact hcp j (by omega)) (fun r h => by rw [← hrr r h]; funext k; simp [up2, h]) (lv_sub hl [1, 2, 3, 4, 5, 6, 0] rfl) hP hD hS
        · refine lv_aload_n hx hb d_M_search_160 rfl (lv_at hl 3 rfl) ?_
          refine nr_iconst hx hb 0 d_M_search_161 (by decide) ?_
          refine va_put (D := D) (ci := 3) (v := .int (nI 0)) (ty := .boolean) (C := R_M) (T := F_M) (N := 26) hx hb htb u_M t_M t_M_ok n_M hown hK hP hD hS 0 rfl rfl 23 (by decide) (htb _ q602) (fun _ h9 => h9) rfl (by decide +kernel) (nr_bool (by omega)) (nr_boolF (by omega)) (Nat.le_of_ble_eq_true rfl) d_M_search_162 (fun H locs hP hD hS => ?_)
          replace hP : va_P D cls (wM am cm P G (up2 X1 0 1 0)) H := hP
          replace hD : va_D A (wM am cm P G (up2 X1 0 1 0)) := hD
          refine lv_iload_n hx hb d_M_search_165 rfl (lv_at hl 5 rfl) ?_
          exact W.iret (v := lv) hx hb hr (fun t ht hW => ⟨⟨_, up2 X1 0 1 0, rfl, by rw [← hres, srch, if_neg (show ¬ (if d < G 0 0 then 0 < nx else 3 < nx) by rw [if_neg (Nat.not_lt.mpr c_52)]; omega), if_pos (show st = lim by omega)]; exact got_stop hmi, by rw [ht]; exact hP, hD⟩, hS.F ht⟩) hS.2.2 d_M_search_166
      · rcases Nat.eq_zero_or_pos p1 with hp0 | hp0
        · rcases Nat.eq_zero_or_pos d with hd0 | hd0
          · have hz : pl = 0 := by rw [hpl, hd0, hp0]; simp
            refine lv_iinc (v := (-1)) (lv' := [(3, .int (-1)), (8, .int (nI nx)), (7, .int (nI 0)), (6, .int (nI ((d * 6) + p1))), (0, .ref (am 0)), (1, .int (nI lim)), (2, .int lv), (4, .int (nI (P 0 0 * P 0 1 - 1))), (5, .int (nI nx))]) hx hb d_M_search_100 hl (k := 6) rfl (by rw [hpl, hd0, hp0]; simp only [Nat.zero_mul, Nat.add_zero]; decide) (by decide) rfl (fun ls hl => ?_)
            refine lv_iload_n hx hb d_M_search_103 rfl (lv_at hl 0 rfl) ?_
            refine lv_if_lt (tgt := 275) hx hb d_M_search_104 (by decide) (fun c_104 => ?_) (fun c_104 => absurd (by decide) c_104)
            refine lv_goto (tgt := 20) hx hb d_M_search_275 (by decide) ?_
            refine lv_iload_n hx hb d_M_search_20 rfl (lv_at hl 0 rfl) ?_
            refine lv_if_lt (tgt := 278) hx hb d_M_search_21 (by decide) (fun c_21 => ?_) (fun c_21 => absurd (by decide) c_21)
            refine lv_iload_n hx hb d_M_search_278 rfl (lv_at hl 6 rfl) ?_
            exact W.iret (v := lv) hx hb hr (fun t ht hW => ⟨⟨_, X1, rfl, by rw [← hres, srch, if_pos (show (if d < G 0 0 then 0 < nx else 3 < nx) by rw [if_neg (Nat.not_lt.mpr c_52)]; omega), if_pos hp0, if_pos hd0]; exact got_of hmi, by rw [ht]; exact hP, hD⟩, hS.F ht⟩) hS.2.2 d_M_search_279
          · have hpl2 : pl = pl := rfl
            have hdm := mul_pred (n := P 0 0) hd0
            have hplm : pl - 1 = (d - 1) * P 0 0 + (P 0 0 - 1) := by omega
            have hdv2 : (pl - 1) / P 0 0 = d - 1 := by rw [hplm]; exact dv_n (by omega)
            have hmd2 : (pl - 1) % P 0 0 = P 0 0 - 1 := by rw [hplm]; exact md_n (by omega)
            refine lv_iinc (v := (nI (pl - 1))) (lv' := [(3, .int (nI (pl - 1))), (8, .int (nI nx)), (7, .int (nI 0)), (6, .int (nI ((d * 6) + p1))), (0, .ref (am 0)), (1, .int (nI lim)), (2, .int lv), (4, .int (nI (P 0 0 * P 0 1 - 1))), (5, .int (nI nx))]) hx hb d_M_search_100 hl (k := 6) rfl (by rw [hpl2]; exact sb_m1 (by omega)) (by decide) rfl (fun ls hl => ?_)
            refine lv_iload_n hx hb d_M_search_103 rfl (lv_at hl 0 rfl) ?_
            refine nr_if_lt (tgt := 275) hx hb (by omega) d_M_search_104 (by decide) (fun c_104 => c_104.elim) (fun c_104 => ?_)
            refine lv_iload_n hx hb d_M_search_107 rfl (lv_at hl 0 rfl) ?_
            refine lv_aload_n hx hb d_M_search_108 rfl (lv_at hl 4 rfl) ?_
            refine va_get (D := D) (ci := 3) (v := .int (nI (P 0 0))) (C := R_M) (T := F_M) (N := 26) hx hb htb u_M hown hK hP 0 rfl rfl 1 (by decide) (htb _ q580) (fun _ h9 => h9) rfl d_M_search_109 ?_
            refine nr_idiv hx hb (by omega) (by omega) (by omega) d_M_search_112 ?_
            refine nr_top (y := nI (d - 1)) (congrArg nI hdv2) ?_
            refine lv_aload_n hx hb d_M_search_113 rfl (lv_at hl 4 rfl) ?_
            refine va_get (D := D) (ci := 3) (v := .int (nI (G 0 0))) (C := R_M) (T := F_M) (N := 26) hx hb htb u_M hown hK hP 0 rfl rfl 3 (by decide) (htb _ q582) (fun _ h9 => h9) rfl d_M_search_114 ?_
            refine nr_icmp_ge (tgt := 124) hx hb (by omega) (by omega) d_M_search_117 (by decide) (fun c_117 => ?_) (fun c_117 => ?_)
            · refine lv_aload_n hx hb d_M_search_124 rfl (lv_at hl 4 rfl) ?_
              refine va_get (D := D) (ci := 3) (v := .ref (am 4)) (C := R_M) (T := F_M) (N := 26) hx hb htb u_M hown hK hP 0 rfl rfl 7 (by decide) (htb _ q586) (fun _ h9 => h9) rfl d_M_search_125 ?_
              refine nr_bipush hx hb 6 d_M_search_128 (by decide) ?_
              refine lv_iload_n hx hb d_M_search_130 rfl (lv_at hl 0 rfl) ?_
              refine lv_aload_n hx hb d_M_search_131 rfl (lv_at hl 4 rfl) ?_
              refine va_get (D := D) (ci := 3) (v := .int (nI (P 0 0))) (C := R_M) (T := F_M) (N := 26) hx hb htb u_M hown hK hP 0 rfl rfl 1 (by decide) (htb _ q580) (fun _ h9 => h9) rfl d_M_search_132 ?_
              refine nr_idiv hx hb (by omega) (by omega) (by omega) d_M_search_135 ?_
              refine nr_top (y := nI (d - 1)) (congrArg nI hdv2) ?_
              refine nr_imul hx hb d_M_search_136 ?_
              refine nr_top (y := nI ((d - 1) * 6)) (congrArg nI (Nat.mul_comm _ _)) ?_
              refine lv_iload_n hx hb d_M_search_137 rfl (lv_at hl 0 rfl) ?_
              refine lv_aload_n hx hb d_M_search_138 rfl (lv_at hl 4 rfl) ?_
              refine va_get (D := D) (ci := 3) (v := .int (nI (P 0 0))) (C := R_M) (T := F_M) (N := 26) hx hb htb u_M hown hK hP 0 rfl rfl 1 (by decide) (htb _ q580) (fun _ h9 => h9) rfl d_M_search_139 ?_
              refine nr_irem hx hb (by omega) (by omega) (by omega) d_M_search_142 ?_
              refine nr_top (y := nI (P 0 0 - 1)) (congrArg nI hmd2) ?_
              refine nr_iadd hx hb d_M_search_143 ?_
              refine nr_iald hx hb hK hP 4 3 rfl rfl (by omega) (by decide) d_M_search_144 ?_
              have hv_5 := hx1 (((d - 1) * 6) + (P 0 0 - 1))
              refine nr_iconst hx hb 1 d_M_search_145 (by decide) ?_
              refine nr_iadd hx hb d_M_search_146 ?_
              refine lv_istore (lv' := [(5, .int (nI ((X1 1 (((d - 1) * 6) + (P 0 0 - 1))) + 1))), (3, .int (nI (pl - 1))), (8, .int (nI nx)), (7, .int (nI 0)), (6, .int (nI ((d * 6) + p1))), (0, .ref (am 0)), (1, .int (nI lim)), (2, .int lv), (4, .int (nI (P 0 0 * P 0 1 - 1)))]) hx hb d_M_search_147 hl (by decide) rfl (fun ls hl => ?_)
              refine lv_goto (tgt := 275) hx hb d_M_search_149 (by decide) ?_
              refine lv_goto (tgt := 20) hx hb d_M_search_275 (by decide) ?_
              exact ih_20 (d := d - 1) (p1 := P 0 0 - 1) _ _ _ _ _ _ _ _ _ _ _ hplm (by omega) (by omega) hmi (by omega) (by omega) (by rw [← hres, srch, if_pos (show (if d < G 0 0 then 0 < nx else 3 < nx) by rw [if_neg (Nat.not_lt.mpr c_52)]; omega), if_pos hp0, if_neg (show ¬ d = 0 by omega), nxt, if_neg (Nat.not_lt.mpr c_117)]) (lv_sub hl [5, 6, 7, 1, 8, 0] rfl) hP hD hS
            · refine nr_iconst hx hb 1 d_M_search_120 (by decide) ?_
              refine lv_goto (tgt := 147) hx hb d_M_search_121 (by decide) ?_
              refine lv_istore (lv' := [(5, .int (nI 1)), (3, .int (nI (pl - 1))), (8, .int (nI nx)), (7, .int (nI 0)), (6, .int (nI ((d * 6) + p1))), (0, .ref (am 0)), (1, .int (nI lim)), (2, .int lv), (4, .int (nI (P 0 0 * P 0 1 - 1)))]) hx hb d_M_search_147 hl (by decide) rfl (fun ls hl => ?_)
              refine lv_goto (tgt := 275) hx hb d_M_search_149 (by decide) ?_
              refine lv_goto (tgt := 20) hx hb d_M_search_275 (by decide) ?_
              exact ih_20 (d := d - 1) (p1 := P 0 0 - 1) _ _ _ _ _ _ _ _ _ _ _ hplm (by omega) (by omega) hmi (by omega) (by omega) (by rw [← hres, srch, if_pos (show (if d < G 0 0 then 0 < nx else 3 < nx) by rw [if_neg (Nat.not_lt.mpr c_52)]; omega), if_pos hp0, if_neg (show ¬ d = 0 by omega), nxt, if_pos c_117]) (lv_sub hl [5, 6, 7, 1, 8, 0] rfl) hP hD hS
        · have hpl2 : pl = pl := rfl
          have hplm : pl - 1 = d * P 0 0 + (p1 - 1) := by omega
          have hdv2 : (pl - 1) / P 0 0 = d := by rw [hplm]; exact dv_n (by omega)
          have hmd2 : (pl - 1) % P 0 0 = p1 - 1 := by rw [hplm]; exact md_n (by omega)
          refine lv_iinc (v := (nI (pl - 1))) (lv' := [(3, .int (nI (pl - 1))), (8, .int (nI nx)), (7, .int (nI 0)), (6, .int (nI ((d * 6) + p1))), (0, .ref (am 0)), (1, .int (nI lim)), (2, .int lv), (4, .int (nI (P 0 0 * P 0 1 - 1))), (5, .int (nI nx))]) hx hb d_M_search_100 hl (k := 6) rfl (by rw [hpl2]; exact sb_m1 (by omega)) (by decide) rfl (fun ls hl => ?_)
          refine lv_iload_n hx hb d_M_search_103 rfl (lv_at hl 0 rfl) ?_
          refine nr_if_lt (tgt := 275) hx hb (by omega) d_M_search_104 (by decide) (fun c_104 => c_104.elim) (fun c_104 => ?_)
          refine lv_iload_n hx hb d_M_search_107 rfl (lv_at hl 0 rfl) ?_
          refine lv_aload_n hx hb d_M_search_108 rfl (lv_at hl 4 rfl) ?_
          refine va_get (D := D) (ci := 3) (v := .int (nI (P 0 0))) (C := R_M) (T := F_M) (N := 26) hx hb htb u_M hown hK hP 0 rfl rfl 1 (by decide) (htb _ q580) (fun _ h9 => h9) rfl d_M_search_109 ?_
          refine nr_idiv hx hb (by omega) (by omega) (by omega) d_M_search_112 ?_
          refine nr_top (y := nI d) (congrArg nI hdv2) ?_
          refine lv_aload_n hx hb d_M_search_113 rfl (lv_at hl 4 rfl) ?_
          refine va_get (D := D) (ci := 3) (v := .int (nI (G 0 0))) (C := R_M) (T := F_M) (N := 26) hx hb htb u_M hown hK hP 0 rfl rfl 3 (by decide) (htb _ q582) (fun _ h9 => h9) rfl d_M_search_114 ?_
          refine nr_icmp_ge (tgt := 124) hx hb (by omega) (by omega) d_M_search_117 (by decide) (fun c_117 => ?_) (fun c_117 => ?_)
          · refine lv_aload_n hx hb d_M_search_124 rfl (lv_at hl 4 rfl) ?_
            refine va_get (D := D) (ci := 3) (v := .ref (am 4)) (C := R_M) (T := F_M) (N := 26) hx hb htb u_M hown hK hP 0 rfl rfl 7 (by decide) (htb _ q586) (fun _ h9 => h9) rfl d_M_search_125 ?_
            refine nr_bipush hx hb 6 d_M_search_128 (by decide) ?_
            refine lv_iload_n hx hb d_M_search_130 rfl (lv_at hl 0 rfl) ?_
            refine lv_aload_n hx hb d_M_search_131 rfl (lv_at hl 4 rfl) ?_
            refine va_get (D := D) (ci := 3) (v := .int (nI (P 0 0))) (C := R_M) (T := F_M) (N := 26) hx hb htb u_M hown hK hP 0 rfl rfl 1 (by decide) (htb _ q580) (fun _ h9 => h9) rfl d_M_search_132 ?_
            refine nr_idiv hx hb (by omega) (by omega) (by omega) d_M_search_135 ?_
            refine nr_top (y := nI d) (congrArg nI hdv2) ?_
            refine nr_imul hx hb d_M_search_136 ?_
            refine nr_top (y := nI (d * 6)) (congrArg nI (Nat.mul_comm _ _)) ?_
            refine lv_iload_n hx hb d_M_search_137 rfl (lv_at hl 0 rfl) ?_
            refine lv_aload_n hx hb d_M_search_138 rfl (lv_at hl 4 rfl) ?_
            refine va_get (D := D) (ci := 3) (v := .int (nI (P 0 0))) (C := R_M) (T := F_M) (N := 26) hx hb htb u_M hown hK hP 0 rfl rfl 1 (by decide) (htb _ q580) (fun _ h9 => h9) rfl d_M_search_139 ?_
            refine nr_irem hx hb (by omega) (by omega) (by omega) d_M_search_142 ?_
            refine nr_top (y := nI (p1 - 1)) (congrArg nI hmd2) ?_
            refine nr_iadd hx hb d_M_search_143 ?_
            refine nr_iald hx hb hK hP 4 3 rfl rfl (by omega) (by decide) d_M_search_144 ?_
            have hv_6 := hx1 ((d * 6) + (p1 - 1))
            refine nr_iconst hx hb 1 d_M_search_145 (by decide) ?_
            refine nr_iadd hx hb d_M_search_146 ?_
            refine lv_istore (lv' := [(5, .int (nI ((X1 1 ((d * 6) + (p1 - 1))) + 1))), (3, .int (nI (pl - 1))), (8, .int (nI nx)), (7, .int (nI 0)), (6, .int (nI ((d * 6) + p1))), (0, .ref (am 0)), (1, .int (nI lim)), (2, .int lv), (4, .int (nI (P 0 0 * P 0 1 - 1)))]) hx hb d_M_search_147 hl (by decide) rfl (fun ls hl => ?_)
            refine lv_goto (tgt := 275) hx hb d_M_search_149 (by decide) ?_
            refine lv_goto (tgt := 20) hx hb d_M_search_275 (by decide) ?_
            exact ih_20 (d := d) (p1 := p1 - 1) _ _ _ _ _ _ _ _ _ _ _ hplm (by omega) (by omega) hmi (by omega) (by omega) (by rw [← hres, srch, if_pos (show (if d < G 0 0 then 0 < nx else 3 < nx) by rw [if_neg (Nat.not_lt.mpr c_52)]; omega), if_neg (show ¬ p1 = 0 by omega), nxt, if_neg (Nat.not_lt.mpr c_117)]) (lv_sub hl [5, 6, 7, 1, 8, 0] rfl) hP hD hS
          · refine nr_iconst hx hb 1 d_M_search_120 (by decide) ?_
            refine lv_goto (tgt := 147) hx hb d_M_search_121 (by decide) ?_
            refine lv_istore (lv' := [(5, .int (nI 1)), (3, .int (nI (pl - 1))), (8, .int (nI nx)), (7, .int (nI 0)), (6, .int (nI ((d * 6) + p1))), (0, .ref (am 0)), (1, .int (nI lim)), (2, .int lv), (4, .int (nI (P 0 0 * P 0 1 - 1)))]) hx hb d_M_search_147 hl (by decide) rfl (fun ls hl => ?_)
            refine lv_goto (tgt := 275) hx hb d_M_search_149 (by decide) ?_
            refine lv_goto (tgt := 20) hx hb d_M_search_275 (by decide) ?_
            exact ih_20 (d := d) (p1 := p1 - 1) _ _ _ _ _ _ _ _ _ _ _ hplm (by omega) (by omega) hmi (by omega) (by omega) (by rw [← hres, srch, if_pos (show (if d < G 0 0 then 0 < nx else 3 < nx) by rw [if_neg (Nat.not_lt.mpr c_52)]; omega), if_neg (show ¬ p1 = 0 by omega), nxt, if_pos c_117]) (lv_sub hl [5, 6, 7, 1, 8, 0] rfl) hP hD hS
    · refine nr_iconst hx hb 1 d_M_search_55 (by decide) ?_
      refine lv_goto (tgt := 60) hx hb d_M_search_56 (by decide) ?_
      refine lv_istore (lv' := [(7, .int (nI 1)), (6, .int (nI ((d * 6) + p1))), (0, .ref (am 0)), (1, .int (nI lim)), (2, .int lv), (3, .int (nI pl)), (4, .int (nI (P 0 0 * P 0 1 - 1))), (5, .int (nI nx))]) hx hb d_M_search_60 hl (by decide) rfl (fun ls hl => ?_)
      refine lv_iload hx hb d_M_search_62 (lv_at hl 0 rfl) ?_
      refine nr_if_eq (tgt := 77) hx hb (by omega) d_M_search_64 (by decide) (fun c_64 => by exfalso; omega) (fun c_64 => ?_)
      refine lv_aload_n hx hb d_M_search_67 rfl (lv_at hl 2 rfl) ?_
      refine va_get (D := D) (ci := 3) (v := .ref (am 3)) (C := R_M) (T := F_M) (N := 26) hx hb htb u_M hown hK hP 0 rfl rfl 6 (by decide) (htb _ q585) (fun _ h9 => h9) rfl d_M_search_68 ?_
      refine lv_iload hx hb d_M_search_71 (lv_at hl 1 rfl) ?_
      refine nr_iald hx hb hK hP 3 2 rfl rfl (by omega) (by decide) d_M_search_73 ?_
      have hv_7 := hg1 ((d * 6) + p1)
      refine lv_goto (tgt := 79) hx hb d_M_search_74 (by decide) ?_
      refine lv_istore (lv' := [(8, .int (nI (G 1 ((d * 6) + p1)))), (7, .int (nI 1)), (6, .int (nI ((d * 6) + p1))), (0, .ref (am 0)), (1, .int (nI lim)), (2, .int lv), (3, .int (nI pl)), (4, .int (nI (P 0 0 * P 0 1 - 1))), (5, .int (nI nx))]) hx hb d_M_search_79 hl (by decide) rfl (fun ls hl => ?_)
      refine lv_iload hx hb d_M_search_81 (lv_at hl 1 rfl) ?_
      refine nr_if_eq (tgt := 94) hx hb (by omega) d_M_search_83 (by decide) (fun c_83 => by exfalso; omega) (fun c_83 => ?_)
      refine lv_iload hx hb d_M_search_86 (lv_at hl 8 rfl) ?_
      refine nr_if_le (tgt := 152) hx hb (by omega) d_M_search_88 (by decide) (fun c_88 => ?_) (fun c_88 => ?_)
      · refine lv_aload_n hx hb d_M_search_152 rfl (lv_at hl 3 rfl) ?_
        refine va_get (D := D) (ci := 3) (v := .int (nI (X1 0 2))) (C := R_M) (T := F_M) (N := 26) hx hb htb u_M hown hK hP 0 rfl rfl 24 (by decide) (htb _ q603) (fun _ h9 => h9) rfl d_M_search_153 ?_
        refine lv_iload_n hx hb d_M_search_156 rfl (lv_at hl 4 rfl) ?_
        refine nr_icmp_ne (tgt := 167) hx hb (by omega) (by omega) d_M_search_157 (by decide) (fun c_157 => ?_) (fun c_157 => ?_)
        · refine lv_aload_n hx hb d_M_search_167 rfl (lv_at hl 3 rfl) ?_
          refine lv_dup hx hb d_M_search_168 rfl ?_
          refine va_get (D := D) (ci := 3) (v := .int (nI (X1 0 2))) (C := R_M) (T := F_M) (N := 26) hx hb htb u_M hown hK hP 0 rfl rfl 24 (by decide) (htb _ q603) (fun _ h9 => h9) rfl d_M_search_169 ?_
          refine nr_iconst hx hb 1 d_M_search_172 (by decide) ?_
          refine nr_iadd hx hb d_M_search_173 ?_
          refine va_put (D := D) (ci := 3) (v := .int (nI ((X1 0 2) + 1))) (ty := .int) (C := R_M) (T := F_M) (N := 26) hx hb htb u_M t_M t_M_ok n_M hown hK hP hD hS 0 rfl rfl 24 (by decide) (htb _ q603) (fun _ h9 => h9) rfl (by decide +kernel) rfl rfl (Nat.le_of_ble_eq_true rfl) d_M_search_174 (fun H locs hP hD hS => ?_)
          replace hP : va_P D cls (wM am cm P G (up2 X1 0 2 ((X1 0 2) + 1))) H := hP
          replace hD : va_D A (wM am cm P G (up2 X1 0 2 ((X1 0 2) + 1))) := hD
          refine lv_aload_n hx hb d_M_search_177 rfl (lv_at hl 3 rfl) ?_
          refine va_get (D := D) (ci := 3) (v := .ref (am 4)) (C := R_M) (T := F_M) (N := 26) hx hb htb u_M hown hK hP 0 rfl rfl 7 (by decide) (htb _ q586) (fun _ h9 => h9) rfl d_M_search_178 ?_
          refine lv_iload hx hb d_M_search_181 (lv_at hl 2 rfl) ?_
          refine lv_iload hx hb d_M_search_183 (lv_at hl 0 rfl) ?_
          refine nr_iast hx hb hK hP hD hS 4 3 rfl rfl (by omega) (by decide) d_M_search_185 (fun H locs hP hD hS => ?_)
          replace hP : va_P D cls (wM am cm P G (up2 (up2 X1 0 2 ((X1 0 2) + 1)) 1 ((d * 6) + p1) (G 1 ((d * 6) + p1)))) H := hP
          replace hD : va_D A (wM am cm P G (up2 (up2 X1 0 2 ((X1 0 2) + 1)) 1 ((d * 6) + p1) (G 1 ((d * 6) + p1)))) := hD
          refine lv_iload hx hb d_M_search_186 (lv_at hl 1 rfl) ?_
          refine nr_if_eq (tgt := 195) hx hb (by omega) d_M_search_188 (by decide) (fun c_188 => by exfalso; omega) (fun c_188 => ?_)
          refine nr_iconst hx hb 1 d_M_search_191 (by decide) ?_
          refine lv_goto (tgt := 199) hx hb d_M_search_192 (by decide) ?_
          refine lv_istore (lv' := [(5, .int (nI 1)), (8, .int (nI (G 1 ((d * 6) + p1)))), (7, .int (nI 1)), (6, .int (nI ((d * 6) + p1))), (0, .ref (am 0)), (1, .int (nI lim)), (2, .int lv), (3, .int (nI pl)), (4, .int (nI (P 0 0 * P 0 1 - 1)))]) hx hb d_M_search_199 hl (by decide) rfl (fun ls hl => ?_)
          have hsv3 : G 1 (d * 6 + p1) ≤ 3 := by omega
          have hs_ : (if d < G 0 0 then G 1 (d * 6 + p1) else nx) = G 1 (d * 6 + p1) := by rw [if_pos c_52]
          have hn_ : (if d < G 0 0 then 1 else nx + 1) = 1 := by rw [if_pos c_52]
          have hmi2 := mi_try (d * 6 + p1) hmi (by omega) hsv3
          have hX2 : okX (up2 (up2 X1 0 2 (X1 0 2 + 1)) 1 (d * 6 + p1) (G 1 (d * 6 + p1))) := hmi2.1
          have hX2t : ∀ k, (up2 (up2 X1 0 2 (X1 0 2 + 1)) 1 (d * 6 + p1) (G 1 (d * 6 + p1))) 1 k ≤ 3 := hX2.2.2.2.2.1
          have hutk : utM P (up2 (up2 X1 0 2 (X1 0 2 + 1)) 1 (d * 6 + p1) (G 1 (d * 6 + p1))) ((up2 (up2 X1 0 2 (X1 0 2 + 1)) 1 (d * 6 + p1) (G 1 (d * 6 + p1))) 1) pl = unm P (up1 (X1 1) (d * 6 + p1) (G 1 (d * 6 + p1))) d p1 := by rw [utM_congr hmi2.2.2.2.2.2.2.2.1, hpl]; exact hut _ d p1 hX2t hpn hdn
          refine lv_aload_n hx hb d_M_search_201 rfl (lv_at hl 4 rfl) ?_
          refine lv_iload_n hx hb d_M_search_202 rfl (lv_at hl 7 rfl) ?_
          refine lv_iload_n hx hb d_M_search_203 rfl (lv_at hl 6 rfl) ?_
          refine nr_calli (va_runV (As := [.int (nI pl), .int lv]) (rest := []) ⟨hx, hb, hml, hown, hts⟩ (c_M_givesUp l D am cm P G (up2 (up2 X1 0 2 ((X1 0 2) + 1)) 1 ((d * 6) + p1) (G 1 ((d * 6) + p1))) hP0 hG0 hX2 d p1 rt le pl lv hpn hdn hpl hmi2.2.2.2.2.2.1 hutk hb0) ⟨callB_of 2 hts (gTB q_M_givesUp) rfl rfl rfl (htb _ q4) (htb _ q725) hd_M_givesUp ⟨Nat.le_of_ble_eq_true rfl, Nat.le_of_ble_eq_true rfl⟩, (htb _ q727), (htb _ sel_M_givesUp)⟩ ⟨ro_blind, va_recv (hK.sub (tys' := []) [] rfl) hP (ci := 3) (q0 := 0) rfl rfl, ro_pre hN (hP.sub (ws' := (wM am cm P G (up2 (up2 X1 0 2 ((X1 0 2) + 1)) 1 ((d * 6) + p1) (G 1 ((d * 6) + p1))))) [0, 1, 2, 3, 4, 5, 6, 7, 8, 9, 10, 11, 12, 13, 14] rfl) (hK.sub (tys' := (tM cm)) [0, 1, 2, 3, 4, 5, 6, 7, 8, 9, 10, 11, 12, 13] rfl)⟩ rfl rfl hl.1 rfl (lv_room (Nat.le_of_ble_eq_true rfl)) d_M_search_204 ⟨Nat.le_of_ble_eq_true rfl, Nat.le_of_ble_eq_true rfl⟩) (fun r_8 hr_8 => ?_)
          subst hr_8
          refine nr_top (y := nI (if gu P (up1 (X1 1) (d * 6 + p1) (G 1 (d * 6 + p1))) d p1 rt le = true then 1 else 0)) rfl ?_
          refine nr_if_ne (tgt := 275) hx hb b01_lt d_M_search_207 (by decide) (fun c_207 => ?_) (fun c_207 => ?_)
          · refine lv_goto (tgt := 20) hx hb d_M_search_275 (by decide) ?_
            exact ih_20 (d := d) (p1 := p1) _ _ _ _ _ _ _ _ _ _ _ hpl hpn (by omega) hmi2 (by omega) (by omega) (by rw [← hres, srch, if_neg (show ¬ (if d < G 0 0 then 0 < nx else 3 < nx) by rw [if_pos c_52]; omega), if_neg (show ¬ st = lim by omega), hs_, hn_, if_pos (b01_nz c_207)]; rfl) (lv_sub hl [4, 5, 6, 7, 8, 0] rfl) hP hD hS
          · refine lv_iload_n hx hb d_M_search_210 rfl (lv_at hl 7 rfl) ?_
            refine lv_iload hx hb d_M_search_211 (lv_at hl 8 rfl) ?_
            refine nr_icmp_ne (tgt := 269) hx hb (by omega) (by omega) d_M_search_213 (by decide) (fun c_213 => ?_) (fun c_213 => ?_)
            · rcases Nat.lt_or_ge (p1 + 1) (P 0 0) with hpp | hpp
              · refine nr_iinc (k := 7) (lv' := [(3, .int (nI (pl + 1))), (5, .int (nI 1)), (8, .int (nI (G 1 ((d * 6) + p1)))), (7, .int (nI 1)), (6, .int (nI ((d * 6) + p1))), (0, .ref (am 0)), (1, .int (nI lim)), (2, .int lv), (4, .int (nI (P 0 0 * P 0 1 - 1)))]) hx hb d_M_search_269 hl rfl (by decide) rfl (fun ls hl => ?_)
                refine nr_iconst hx hb 0 d_M_search_272 (by decide) ?_
                refine lv_istore (lv' := [(5, .int (nI 0)), (3, .int (nI (pl + 1))), (8, .int (nI (G 1 ((d * 6) + p1)))), (7, .int (nI 1)), (6, .int (nI ((d * 6) + p1))), (0, .ref (am 0)), (1, .int (nI lim)), (2, .int lv), (4, .int (nI (P 0 0 * P 0 1 - 1)))]) hx hb d_M_search_273 hl (by decide) rfl (fun ls hl => ?_)
                refine lv_goto (tgt := 20) hx hb d_M_search_275 (by decide) ?_
                exact ih_20 (d := d) (p1 := p1 + 1) _ _ _ _ _ _ _ _ _ _ _ (by omega) (by omega) (by omega) hmi2 (by omega) (by omega) (by rw [← hres, srch, if_neg (show ¬ (if d < G 0 0 then 0 < nx else 3 < nx) by rw [if_pos c_52]; omega), if_neg (show ¬ st = lim by omega), hs_, hn_, if_neg (b01_z c_207), if_neg (show ¬ p1 = P 0 0 - 1 by omega)]; rfl) (lv_sub hl [5, 6, 7, 1, 8, 0] rfl) hP hD hS
              · have hnl : d ≠ P 0 1 - 1 := fun h => c_213 (hpl.trans ((last_iff hpn hdn).mpr ⟨by omega, h⟩))
                have hma : (d + 1) * P 0 0 = d * P 0 0 + P 0 0 := by rw [Nat.add_mul, Nat.one_mul]
                refine nr_iinc (k := 7) (lv' := [(3, .int (nI (pl + 1))), (5, .int (nI 1)), (8, .int (nI (G 1 ((d * 6) + p1)))), (7, .int (nI 1)), (6, .int (nI ((d * 6) + p1))), (0, .ref (am 0)), (1, .int (nI lim)), (2, .int lv), (4, .int (nI (P 0 0 * P 0 1 - 1)))]) hx hb d_M_search_269 hl rfl (by decide) rfl (fun ls hl => ?_)
                refine nr_iconst hx hb 0 d_M_search_272 (by decide) ?_
                refine lv_istore (lv' := [(5, .int (nI 0)), (3, .int (nI (pl + 1))), (8, .int (nI (G 1 ((d * 6) + p1)))), (7, .int (nI 1)), (6, .int (nI ((d * 6) + p1))), (0, .ref (am 0)), (1, .int (nI lim)), (2, .int lv), (4, .int (nI (P 0 0 * P 0 1 - 1)))]) hx hb d_M_search_273 hl (by decide) rfl (fun ls hl => ?_)
                refine lv_goto (tgt := 20) hx hb d_M_search_275 (by decide) ?_
                exact ih_20 (d := d + 1) (p1 := 0) _ _ _ _ _ _ _ _ _ _ _ (by omega) (by omega) (by omega) hmi2 (by omega) (by omega) (by rw [← hres, srch, if_neg (show ¬ (if d < G 0 0 then 0 < nx else 3 < nx) by rw [if_pos c_52]; omega), if_neg (show ¬ st = lim by omega), hs_, hn_, if_neg (b01_z c_207), if_pos (show p1 = P 0 0 - 1 by omega), if_neg hnl]; rfl) (lv_sub hl [5, 6, 7, 1, 8, 0] rfl) hP hD hS
            · refine lv_aload_n hx hb d_M_search_216 rfl (lv_at hl 4 rfl) ?_
              refine lv_dup hx hb d_M_search_217 rfl ?_
              refine va_get (D := D) (ci := 3) (v := .int (nI (X1 0 3))) (C := R_M) (T := F_M) (N := 26) hx hb htb u_M hown hK hP 0 rfl rfl 25 (by decide) (htb _ q604) (fun _ h9 => h9) rfl d_M_search_218 ?_
              refine nr_iconst hx hb 1 d_M_search_221 (by decide) ?_
              refine nr_iadd hx hb d_M_search_222 ?_
              refine va_put (D := D) (ci := 3) (v := .int (nI ((X1 0 3) + 1))) (ty := .int) (C := R_M) (T := F_M) (N := 26) hx hb htb u_M t_M t_M_ok n_M hown hK hP hD hS 0 rfl rfl 25 (by decide) (htb _ q604) (fun _ h9 => h9) rfl (by decide +kernel) rfl rfl (Nat.le_of_ble_eq_true rfl) d_M_search_223 (fun H locs hP hD hS => ?_)
              replace hP : va_P D cls (wM am cm P G (up2 (up2 (up2 X1 0 2 ((X1 0 2) + 1)) 1 ((d * 6) + p1) (G 1 ((d * 6) + p1))) 0 3 ((X1 0 3) + 1))) H := hP
              replace hD : va_D A (wM am cm P G (up2 (up2 (up2 X1 0 2 ((X1 0 2) + 1)) 1 ((d * 6) + p1) (G 1 ((d * 6) + p1))) 0 3 ((X1 0 3) + 1))) := hD
              refine lv_aload_n hx hb d_M_search_226 rfl (lv_at hl 4 rfl) ?_
              refine lv_aload_n hx hb d_M_search_227 rfl (lv_at hl 4 rfl) ?_
              refine va_get (D := D) (ci := 3) (v := .ref (am 4)) (C := R_M) (T := F_M) (N := 26) hx hb htb u_M hown hK hP 0 rfl rfl 7 (by decide) (htb _ q586) (fun _ h9 => h9) rfl d_M_search_228 ?_
              refine lv_iload_n hx hb d_M_search_231 rfl (lv_at hl 7 rfl) ?_
              have hX3o : okX (up2 (up2 (up2 X1 0 2 ((X1 0 2) + 1)) 1 ((d * 6) + p1) (G 1 ((d * 6) + p1))) 0 3 ((X1 0 3) + 1)) := okx_r hX2 (by show X1 0 3 + 1 ≤ 40000; omega)
              have hutk3 : utM P (up2 (up2 (up2 X1 0 2 ((X1 0 2) + 1)) 1 ((d * 6) + p1) (G 1 ((d * 6) + p1))) 0 3 ((X1 0 3) + 1)) ((up2 (up2 (up2 X1 0 2 ((X1 0 2) + 1)) 1 ((d * 6) + p1) (G 1 ((d * 6) + p1))) 0 3 ((X1 0 3) + 1)) 1) pl = unm P (up1 (X1 1) (d * 6 + p1) (G 1 (d * 6 + p1))) d p1 := (utM_congr (X := up2 (up2 X1 0 2 (X1 0 2 + 1)) 1 (d * 6 + p1) (G 1 (d * 6 + p1))) (fun r hr => by funext k; simp only [up2]; rw [if_neg (show ¬ r = 0 by omega)])).trans hutk
              refine nr_calli (va_runV (As := [.ref (am 4), .int (nI pl)]) (rest := []) ⟨hx, hb, hml, hown, hts⟩ (c_M_unmetTo l D am cm P G (up2 (up2 (up2 X1 0 2 ((X1 0 2) + 1)) 1 ((d * 6) + p1) (G 1 ((d * 6) + p1))) 0 3 ((X1 0 3) + 1)) (am 4) (cm 3) ((up2 (up2 (up2 X1 0 2 ((X1 0 2) + 1)) 1 ((d * 6) + p1) (G 1 ((d * 6) + p1))) 0 3 ((X1 0 3) + 1)) 1) hP0 hG0 hX3o hX2t pl (by omega)) ⟨callB_of 2 hts (gTB q_M_unmetTo) rfl rfl rfl (htb _ q4) (htb _ q742) hd_M_unmetTo ⟨Nat.le_of_ble_eq_true rfl, Nat.le_of_ble_eq_true rfl⟩, (htb _ q744), (htb _ sel_M_unmetTo)⟩ ⟨ro_blind, va_recv (hK.sub (tys' := []) [] rfl) hP (ci := 3) (q0 := 0) rfl rfl, ro_pre hN (hP.sub (ws' := (wMS am cm P G (up2 (up2 (up2 X1 0 2 ((X1 0 2) + 1)) 1 ((d * 6) + p1) (G 1 ((d * 6) + p1))) 0 3 ((X1 0 3) + 1)) (am 4) (cm 3) ((up2 (up2 (up2 X1 0 2 ((X1 0 2) + 1)) 1 ((d * 6) + p1) (G 1 ((d * 6) + p1))) 0 3 ((X1 0 3) + 1)) 1))) [0, 1, 2, 3, 4, 5, 6, 7, 8, 9, 10, 11, 12, 13, 14, 4] rfl) (hK.sub (tys' := (tMS cm (cm 3))) [0, 1, 2, 3, 4, 5, 6, 7, 8, 9, 10, 11, 12, 13, 3] rfl)⟩ rfl rfl hl.1 rfl (lv_room (Nat.le_of_ble_eq_true rfl)) d_M_search_232 ⟨Nat.le_of_ble_eq_true rfl, Nat.le_of_ble_eq_true rfl⟩) (fun r_9 hr_9 => ?_)
              subst hr_9
              refine nr_top (y := nI (unm P (up1 (X1 1) (d * 6 + p1) (G 1 (d * 6 + p1))) d p1)) (congrArg nI hutk3) ?_
              refine lv_istore_n (lv' := [(2, .int (nI (unm P (up1 (X1 1) (d * 6 + p1) (G 1 (d * 6 + p1))) d p1))), (5, .int (nI 1)), (8, .int (nI (G 1 ((d * 6) + p1)))), (7, .int (nI 1)), (6, .int (nI ((d * 6) + p1))), (0, .ref (am 0)), (1, .int (nI lim)), (3, .int (nI pl)), (4, .int (nI (P 0 0 * P 0 1 - 1)))]) hx hb d_M_search_235 rfl hl (by decide) rfl (fun ls hl => ?_)
              have hunl := unm_le hP0 (up1 (X1 1) (d * 6 + p1) (G 1 (d * 6 + p1))) d p1 (by omega) hpn
              have hlast := (last_iff hpn hdn).mp (hpl.symm.trans c_213)
              have hmi3 : Mi lim X (upr (up2 (up2 (up2 X1 0 2 ((X1 0 2) + 1)) 1 ((d * 6) + p1) (G 1 ((d * 6) + p1))) 0 3 ((X1 0 3) + 1)) 2 ((up2 (up2 (up2 X1 0 2 ((X1 0 2) + 1)) 1 ((d * 6) + p1) (G 1 ((d * 6) + p1))) 0 3 ((X1 0 3) + 1)) 1)) (st + 1) (rt + 1) (unm P (up1 (X1 1) (d * 6 + p1) (G 1 (d * 6 + p1))) d p1) (nI (unm P (up1 (X1 1) (d * 6 + p1) (G 1 (d * 6 + p1))) d p1)) (up1 (X1 1) (d * 6 + p1) (G 1 (d * 6 + p1))) := mi_keep hmi2 (by omega) hunl
              have hX3t : (up2 (up2 (up2 X1 0 2 ((X1 0 2) + 1)) 1 ((d * 6) + p1) (G 1 ((d * 6) + p1))) 0 3 ((X1 0 3) + 1)) 1 = up1 (X1 1) (d * 6 + p1) (G 1 (d * 6 + p1)) := rfl
              generalize hX3 : up2 (up2 (up2 X1 0 2 ((X1 0 2) + 1)) 1 ((d * 6) + p1) (G 1 ((d * 6) + p1))) 0 3 ((X1 0 3) + 1) = X3 at hP hD hmi3 hX3t
              refine nr_iconst hx hb 0 d_M_search_236 (by decide) ?_
              refine lv_istore (lv' := [(9, .int (nI 0)), (2, .int (nI (unm P (up1 (X1 1) (d * 6 + p1) (G 1 (d * 6 + p1))) d p1))), (5, .int (nI 1)), (8, .int (nI (G 1 ((d * 6) + p1)))), (7, .int (nI 1)), (6, .int (nI ((d * 6) + p1))), (0, .ref (am 0)), (1, .int (nI lim)), (3, .int (nI pl)), (4, .int (nI (P 0 0 * P 0 1 - 1)))]) hx hb d_M_search_237 hl (by decide) rfl (fun ls hl => ?_)
              replace hP : ∃ (k2 i : Nat) (X4 : Nat → Nat → Nat), (i + k2 = 42) ∧ (∀ j, j < i → X4 2 j = X3 1 j) ∧ (∀ r, r ≠ 2 → X4 r = X3 r) ∧ lv_has ls 10 [(0, .ref (am 0)), (1, .int (nI lim)), (2, .int (nI (unm P (up1 (X1 1) (d * 6 + p1) (G 1 (d * 6 + p1))) d p1))), (3, .int (nI pl)), (4, .int (nI (P 0 0 * P 0 1 - 1))), (5, .int (nI 1)), (9, .int (nI i))] ∧ va_P D cls (wM am cm P G X4) H ∧ va_D A (wM am cm P G X4) ∧ va_S A s.heap H locs := ⟨42, 0, X3, rfl, fun j h => absurd h (Nat.not_lt_zero j), fun _ _ => rfl, lv_sub hl [6, 7, 1, 8, 9, 2, 0] rfl, hP, hD, hS⟩
              clear hl hD hS
              obtain ⟨k2, i, X4, hk2, hcp, hrr, hl, hP, hD, hS⟩ := hP
              induction k2 generalizing i X4 ls H locs with
              | zero =>
                refine lv_iload hx hb d_M_search_239 (lv_at hl 6 rfl) ?_
                refine nr_bipush hx hb 42 d_M_search_241 (by decide) ?_
                refine nr_icmp_ge (tgt := 266) hx hb (by omega) (by omega) d_M_search_243 (by decide) (fun c_243 => ?_) (fun c_243 => by exfalso; omega)
                obtain ⟨hP, hD⟩ := nr_swap (q0 := 5) (g := fun k => nI (X3 1 k)) hP hD rfl (fun j hj => by rw [hcp j (by omega)])
                have e0 := hrr 0 (by decide)
                have e1 := hrr 1 (by decide)
                have e3 := hrr 3 (by decide)
                have e4 := hrr 4 (by decide)
                have e5 := hrr 5 (by decide)
                have e6 := hrr 6 (by decide)
                have e7 := hrr 7 (by decide)
                have hP : va_P D cls (wM am cm P G (upr X3 2 (X3 1))) H := by have h9 := hP; simp only [wM, List.set, e0, e1, e3, e4, e5, e6, e7] at h9; exact h9
                have hD : va_D A (wM am cm P G (upr X3 2 (X3 1))) := by have h9 := hD; simp only [wM, List.set, e0, e1, e3, e4, e5, e6, e7] at h9; exact h9
                refine lv_goto (tgt := 275) hx hb d_M_search_266 (by decide) ?_
                refine lv_goto (tgt := 20) hx hb d_M_search_275 (by decide) ?_
                exact ih_20 (d := d) (p1 := p1) _ _ _ _ _ _ _ _ _ _ _ hpl hpn (by omega) hmi3 (by omega) (by omega) (by rw [← hres, srch, if_neg (show ¬ (if d < G 0 0 then 0 < nx else 3 < nx) by rw [if_pos c_52]; omega), if_neg (show ¬ st = lim by omega), hs_, hn_, if_neg (b01_z c_207), if_pos hlast.1, if_pos hlast.2]; show srch P (G 1) (G 0 0) lim k d p1 _ _ _ _ (X3 1) _ = _; rw [hX3t]) (lv_sub hl [0, 1, 2, 3, 4, 5] rfl) hP hD hS
              | succ k2 ih_239 =>
                refine lv_iload hx hb d_M_search_239 (lv_at hl 6 rfl) ?_
                refine nr_bipush hx hb 42 d_M_search_241 (by decide) ?_
                refine nr_icmp_ge (tgt := 266) hx hb (by omega) (by omega) d_M_search_243 (by decide) (fun c_243 => by exfalso; omega) (fun c_243 => ?_)
                refine lv_aload_n hx hb d_M_search_246 rfl (lv_at hl 0 rfl) ?_
                refine va_get (D := D) (ci := 3) (v := .ref (am 5)) (C := R_M) (T := F_M) (N := 26) hx hb htb u_M hown hK hP 0 rfl rfl 8 (by decide) (htb _ q587) (fun _ h9 => h9) rfl d_M_search_247 ?_
                refine lv_iload hx hb d_M_search_250 (lv_at hl 6 rfl) ?_
                refine lv_aload_n hx hb d_M_search_252 rfl (lv_at hl 0 rfl) ?_
                refine va_get (D := D) (ci := 3) (v := .ref (am 4)) (C := R_M) (T := F_M) (N := 26) hx hb htb u_M hown hK hP 0 rfl rfl 7 (by decide) (htb _ q586) (fun _ h9 => h9) rfl d_M_search_253 ?_
                refine lv_iload hx hb d_M_search_256 (lv_at hl 6 rfl) ?_
                refine nr_iald hx hb hK hP 4 3 rfl rfl (by omega) (by decide) d_M_search_258 ?_
                have hv_10 := hx1 i
                refine nr_iast hx hb hK hP hD hS 5 4 rfl rfl (by omega) (by decide) d_M_search_259 (fun H locs hP hD hS => ?_)
                replace hP : va_P D cls (wM am cm P G (up2 X4 2 i (X4 1 i))) H := hP
                replace hD : va_D A (wM am cm P G (up2 X4 2 i (X4 1 i))) := hD
                refine nr_iinc (k := 6) (lv' := [(9, .int (nI (i + 1))), (0, .ref (am 0)), (1, .int (nI lim)), (2, .int (nI (unm P (up1 (X1 1) (d * 6 + p1) (G 1 (d * 6 + p1))) d p1))), (3, .int (nI pl)), (4, .int (nI (P 0 0 * P 0 1 - 1))), (5, .int (nI 1))]) hx hb d_M_search_260 hl rfl (by decide) rfl (fun ls hl => ?_)
                refine lv_goto (tgt := 239) hx hb d_M_search_263 (by decide) ?_
                exact ih_239 _ _ _ _ _ (by omega) (fun j h => by show (if j = i then X4 1 i else X4 2 j) = X3 1 j; split; (rename_i hj; rw [hj, congrFun (hrr 1 (by decide)) i]); exact hcp j (by omega)) (fun r h => by rw [← hrr r h]; funext k; simp [up2, h]) (lv_sub hl [1, 2, 3, 4, 5, 6, 0] rfl) hP hD hS
        · refine lv_aload_n hx hb d_M_search_160 rfl (lv_at hl 3 rfl) ?_
          refine nr_iconst hx hb 0 d_M_search_161 (by decide) ?_
          refine va_put (D := D) (ci := 3) (v := .int (nI 0)) (ty := .boolean) (C := R_M) (T := F_M) (N := 26) hx hb htb u_M t_M t_M_ok n_M hown hK hP hD hS 0 rfl rfl 23 (by decide) (htb _ q602) (fun _ h9 => h9) rfl (by decide +kernel) (nr_bool (by omega)) (nr_boolF (by omega)) (Nat.le_of_ble_eq_true rfl) d_M_search_162 (fun H locs hP hD hS => ?_)
          replace hP : va_P D cls (wM am cm P G (up2 X1 0 1 0)) H := hP
          replace hD : va_D A (wM am cm P G (up2 X1 0 1 0)) := hD
          refine lv_iload_n hx hb d_M_search_165 rfl (lv_at hl 5 rfl) ?_
          exact W.iret (v := lv) hx hb hr (fun t ht hW => ⟨⟨_, up2 X1 0 1 0, rfl, by rw [← hres, srch, if_neg (show ¬ (if d < G 0 0 then 0 < nx else 3 < nx) by rw [if_pos c_52]; omega), if_pos (show st = lim by omega)]; exact got_stop hmi, by rw [ht]; exact hP, hD⟩, hS.F ht⟩) hS.2.2 d_M_search_166
      · refine lv_goto (tgt := 100) hx hb d_M_search_91 (by decide) ?_
        rcases Nat.eq_zero_or_pos p1 with hp0 | hp0
        · rcases Nat.eq_zero_or_pos d with hd0 | hd0
          · have hz : pl = 0 := by rw [hpl, hd0, hp0]; simp
            refine lv_iinc (v := (-1)) (lv' := [(3, .int (-1)), (8, .int (nI (G 1 ((d * 6) + p1)))), (7, .int (nI 1)), (6, .int (nI ((d * 6) + p1))), (0, .ref (am 0)), (1, .int (nI lim)), (2, .int lv), (4, .int (nI (P 0 0 * P 0 1 - 1))), (5, .int (nI nx))]) hx hb d_M_search_100 hl (k := 6) rfl (by rw [hpl, hd0, hp0]; simp only [Nat.zero_mul, Nat.add_zero]; decide) (by decide) rfl (fun ls hl => ?_)
            refine lv_iload_n hx hb d_M_search_103 rfl (lv_at hl 0 rfl) ?_
            refine lv_if_lt (tgt := 275) hx hb d_M_search_104 (by decide) (fun c_104 => ?_) (fun c_104 => absurd (by decide) c_104)
            refine lv_goto (tgt := 20) hx hb d_M_search_275 (by decide) ?_
            refine lv_iload_n hx hb d_M_search_20 rfl (lv_at hl 0 rfl) ?_
            refine lv_if_lt (tgt := 278) hx hb d_M_search_21 (by decide) (fun c_21 => ?_) (fun c_21 => absurd (by decide) c_21)
            refine lv_iload_n hx hb d_M_search_278 rfl (lv_at hl 6 rfl) ?_
            exact W.iret (v := lv) hx hb hr (fun t ht hW => ⟨⟨_, X1, rfl, by rw [← hres, srch, if_pos (show (if d < G 0 0 then 0 < nx else 3 < nx) by rw [if_pos c_52]; omega), if_pos hp0, if_pos hd0]; exact got_of hmi, by rw [ht]; exact hP, hD⟩, hS.F ht⟩) hS.2.2 d_M_search_279
          · have hpl2 : pl = pl := rfl
            have hdm := mul_pred (n := P 0 0) hd0
            have hplm : pl - 1 = (d - 1) * P 0 0 + (P 0 0 - 1) := by omega
            have hdv2 : (pl - 1) / P 0 0 = d - 1 := by rw [hplm]; exact dv_n (by omega)
            have hmd2 : (pl - 1) % P 0 0 = P 0 0 - 1 := by rw [hplm]; exact md_n (by omega)
            refine lv_iinc (v := (nI (pl - 1))) (lv' := [(3, .int (nI (pl - 1))), (8, .int (nI (G 1 ((d * 6) + p1)))), (7, .int (nI 1)), (6, .int (nI ((d * 6) + p1))), (0, .ref (am 0)), (1, .int (nI lim)), (2, .int lv), (4, .int (nI (P 0 0 * P 0 1 - 1))), (5, .int (nI nx))]) hx hb d_M_search_100 hl (k := 6) rfl (by rw [hpl2]; exact sb_m1 (by omega)) (by decide) rfl (fun ls hl => ?_)
            refine lv_iload_n hx hb d_M_search_103 rfl (lv_at hl 0 rfl) ?_
            refine nr_if_lt (tgt := 275) hx hb (by omega) d_M_search_104 (by decide) (fun c_104 => c_104.elim) (fun c_104 => ?_)
            refine lv_iload_n hx hb d_M_search_107 rfl (lv_at hl 0 rfl) ?_
            refine lv_aload_n hx hb d_M_search_108 rfl (lv_at hl 4 rfl) ?_
            refine va_get (D := D) (ci := 3) (v := .int (nI (P 0 0))) (C := R_M) (T := F_M) (N := 26) hx hb htb u_M hown hK hP 0 rfl rfl 1 (by decide) (htb _ q580) (fun _ h9 => h9) rfl d_M_search_109 ?_
            refine nr_idiv hx hb (by omega) (by omega) (by omega) d_M_search_112 ?_
            refine nr_top (y := nI (d - 1)) (congrArg nI hdv2) ?_
            refine lv_aload_n hx hb d_M_search_113 rfl (lv_at hl 4 rfl) ?_
            refine va_get (D := D) (ci := 3) (v := .int (nI (G 0 0))) (C := R_M) (T := F_M) (N := 26) hx hb htb u_M hown hK hP 0 rfl rfl 3 (by decide) (htb _ q582) (fun _ h9 => h9) rfl d_M_search_114 ?_
            refine nr_icmp_ge (tgt := 124) hx hb (by omega) (by omega) d_M_search_117 (by decide) (fun c_117 => ?_) (fun c_117 => ?_)
            · refine lv_aload_n hx hb d_M_search_124 rfl (lv_at hl 4 rfl) ?_
              refine va_get (D := D) (ci := 3) (v := .ref (am 4)) (C := R_M) (T := F_M) (N := 26) hx hb htb u_M hown hK hP 0 rfl rfl 7 (by decide) (htb _ q586) (fun _ h9 => h9) rfl d_M_search_125 ?_
              refine nr_bipush hx hb 6 d_M_search_128 (by decide) ?_
              refine lv_iload_n hx hb d_M_search_130 rfl (lv_at hl 0 rfl) ?_
              refine lv_aload_n hx hb d_M_search_131 rfl (lv_at hl 4 rfl) ?_
              refine va_get (D := D) (ci := 3) (v := .int (nI (P 0 0))) (C := R_M) (T := F_M) (N := 26) hx hb htb u_M hown hK hP 0 rfl rfl 1 (by decide) (htb _ q580) (fun _ h9 => h9) rfl d_M_search_132 ?_
              refine nr_idiv hx hb (by omega) (by omega) (by omega) d_M_search_135 ?_
              refine nr_top (y := nI (d - 1)) (congrArg nI hdv2) ?_
              refine nr_imul hx hb d_M_search_136 ?_
              refine nr_top (y := nI ((d - 1) * 6)) (congrArg nI (Nat.mul_comm _ _)) ?_
              refine lv_iload_n hx hb d_M_search_137 rfl (lv_at hl 0 rfl) ?_
              refine lv_aload_n hx hb d_M_search_138 rfl (lv_at hl 4 rfl) ?_
              refine va_get (D := D) (ci := 3) (v := .int (nI (P 0 0))) (C := R_M) (T := F_M) (N := 26) hx hb htb u_M hown hK hP 0 rfl rfl 1 (by decide) (htb _ q580) (fun _ h9 => h9) rfl d_M_search_139 ?_
              refine nr_irem hx hb (by omega) (by omega) (by omega) d_M_search_142 ?_
              refine nr_top (y := nI (P 0 0 - 1)) (congrArg nI hmd2) ?_
              refine nr_iadd hx hb d_M_search_143 ?_
              refine nr_iald hx hb hK hP 4 3 rfl rfl (by omega) (by decide) d_M_search_144 ?_
              have hv_12 := hx1 (((d - 1) * 6) + (P 0 0 - 1))
              refine nr_iconst hx hb 1 d_M_search_145 (by decide) ?_
              refine nr_iadd hx hb d_M_search_146 ?_
              refine lv_istore (lv' := [(5, .int (nI ((X1 1 (((d - 1) * 6) + (P 0 0 - 1))) + 1))), (3, .int (nI (pl - 1))), (8, .int (nI (G 1 ((d * 6) + p1)))), (7, .int (nI 1)), (6, .int (nI ((d * 6) + p1))), (0, .ref (am 0)), (1, .int (nI lim)), (2, .int lv), (4, .int (nI (P 0 0 * P 0 1 - 1)))]) hx hb d_M_search_147 hl (by decide) rfl (fun ls hl => ?_)
              refine lv_goto (tgt := 275) hx hb d_M_search_149 (by decide) ?_
              refine lv_goto (tgt := 20) hx hb d_M_search_275 (by decide) ?_
              exact ih_20 (d := d - 1) (p1 := P 0 0 - 1) _ _ _ _ _ _ _ _ _ _ _ hplm (by omega) (by omega) hmi (by omega) (by omega) (by rw [← hres, srch, if_pos (show (if d < G 0 0 then 0 < nx else 3 < nx) by rw [if_pos c_52]; omega), if_pos hp0, if_neg (show ¬ d = 0 by omega), nxt, if_neg (Nat.not_lt.mpr c_117)]) (lv_sub hl [5, 6, 7, 1, 8, 0] rfl) hP hD hS
            · refine nr_iconst hx hb 1 d_M_search_120 (by decide) ?_
              refine lv_goto (tgt := 147) hx hb d_M_search_121 (by decide) ?_
              refine lv_istore (lv' := [(5, .int (nI 1)), (3, .int (nI (pl - 1))), (8, .int (nI (G 1 ((d * 6) + p1)))), (7, .int (nI 1)), (6, .int (nI ((d * 6) + p1))), (0, .ref (am 0)), (1, .int (nI lim)), (2, .int lv), (4, .int (nI (P 0 0 * P 0 1 - 1)))]) hx hb d_M_search_147 hl (by decide) rfl (fun ls hl => ?_)
              refine lv_goto (tgt := 275) hx hb d_M_search_149 (by decide) ?_
              refine lv_goto (tgt := 20) hx hb d_M_search_275 (by decide) ?_
              exact ih_20 (d := d - 1) (p1 := P 0 0 - 1) _ _ _ _ _ _ _ _ _ _ _ hplm (by omega) (by omega) hmi (by omega) (by omega) (by rw [← hres, srch, if_pos (show (if d < G 0 0 then 0 < nx else 3 < nx) by rw [if_pos c_52]; omega), if_pos hp0, if_neg (show ¬ d = 0 by omega), nxt, if_pos c_117]) (lv_sub hl [5, 6, 7, 1, 8, 0] rfl) hP hD hS
        · have hpl2 : pl = pl := rfl
          have hplm : pl - 1 = d * P 0 0 + (p1 - 1) := by omega
          have hdv2 : (pl - 1) / P 0 0 = d := by rw [hplm]; exact dv_n (by omega)
          have hmd2 : (pl - 1) % P 0 0 = p1 - 1 := by rw [hplm]; exact md_n (by omega)
          refine lv_iinc (v := (nI (pl - 1))) (lv' := [(3, .int (nI (pl - 1))), (8, .int (nI (G 1 ((d * 6) + p1)))), (7, .int (nI 1)), (6, .int (nI ((d * 6) + p1))), (0, .ref (am 0)), (1, .int (nI lim)), (2, .int lv), (4, .int (nI (P 0 0 * P 0 1 - 1))), (5, .int (nI nx))]) hx hb d_M_search_100 hl (k := 6) rfl (by rw [hpl2]; exact sb_m1 (by omega)) (by decide) rfl (fun ls hl => ?_)
          refine lv_iload_n hx hb d_M_search_103 rfl (lv_at hl 0 rfl) ?_
          refine nr_if_lt (tgt := 275) hx hb (by omega) d_M_search_104 (by decide) (fun c_104 => c_104.elim) (fun c_104 => ?_)
          refine lv_iload_n hx hb d_M_search_107 rfl (lv_at hl 0 rfl) ?_
          refine lv_aload_n hx hb d_M_search_108 rfl (lv_at hl 4 rfl) ?_
          refine va_get (D := D) (ci := 3) (v := .int (nI (P 0 0))) (C := R_M) (T := F_M) (N := 26) hx hb htb u_M hown hK hP 0 rfl rfl 1 (by decide) (htb _ q580) (fun _ h9 => h9) rfl d_M_search_109 ?_
          refine nr_idiv hx hb (by omega) (by omega) (by omega) d_M_search_112 ?_
          refine nr_top (y := nI d) (congrArg nI hdv2) ?_
          refine lv_aload_n hx hb d_M_search_113 rfl (lv_at hl 4 rfl) ?_
          refine va_get (D := D) (ci := 3) (v := .int (nI (G 0 0))) (C := R_M) (T := F_M) (N := 26) hx hb htb u_M hown hK hP 0 rfl rfl 3 (by decide) (htb _ q582) (fun _ h9 => h9) rfl d_M_search_114 ?_
          refine nr_icmp_ge (tgt := 124) hx hb (by omega) (by omega) d_M_search_117 (by decide) (fun c_117 => ?_) (fun c_117 => ?_)
          · refine lv_aload_n hx hb d_M_search_124 rfl (lv_at hl 4 rfl) ?_
            refine va_get (D := D) (ci := 3) (v := .ref (am 4)) (C := R_M) (T := F_M) (N := 26) hx hb htb u_M hown hK hP 0 rfl rfl 7 (by decide) (htb _ q586) (fun _ h9 => h9) rfl d_M_search_125 ?_
            refine nr_bipush hx hb 6 d_M_search_128 (by decide) ?_
            refine lv_iload_n hx hb d_M_search_130 rfl (lv_at hl 0 rfl) ?_
            refine lv_aload_n hx hb d_M_search_131 rfl (lv_at hl 4 rfl) ?_
            refine va_get (D := D) (ci := 3) (v := .int (nI (P 0 0))) (C := R_M) (T := F_M) (N := 26) hx hb htb u_M hown hK hP 0 rfl rfl 1 (by decide) (htb _ q580) (fun _ h9 => h9) rfl d_M_search_132 ?_
            refine nr_idiv hx hb (by omega) (by omega) (by omega) d_M_search_135 ?_
            refine nr_top (y := nI d) (congrArg nI hdv2) ?_
            refine nr_imul hx hb d_M_search_136 ?_
            refine nr_top (y := nI (d * 6)) (congrArg nI (Nat.mul_comm _ _)) ?_
            refine lv_iload_n hx hb d_M_search_137 rfl (lv_at hl 0 rfl) ?_
            refine lv_aload_n hx hb d_M_search_138 rfl (lv_at hl 4 rfl) ?_
            refine va_get (D := D) (ci := 3) (v := .int (nI (P 0 0))) (C := R_M) (T := F_M) (N := 26) hx hb htb u_M hown hK hP 0 rfl rfl 1 (by decide) (htb _ q580) (fun _ h9 => h9) rfl d_M_search_139 ?_
            refine nr_irem hx hb (by omega) (by omega) (by omega) d_M_search_142 ?_
            refine nr_top (y := nI (p1 - 1)) (congrArg nI hmd2) ?_
            refine nr_iadd hx hb d_M_search_143 ?_
            refine nr_iald hx hb hK hP 4 3 rfl rfl (by omega) (by decide) d_M_search_144 ?_
            have hv_13 := hx1 ((d * 6) + (p1 - 1))
            refine nr_iconst hx hb 1 d_M_search_145 (by decide) ?_
            refine nr_iadd hx hb d_M_search_146 ?_
            refine lv_istore (lv' := [(5, .int (nI ((X1 1 ((d * 6) + (p1 - 1))) + 1))), (3, .int (nI (pl - 1))), (8, .int (nI (G 1 ((d * 6) + p1)))), (7, .int (nI 1)), (6, .int (nI ((d * 6) + p1))), (0, .ref (am 0)), (1, .int (nI lim)), (2, .int lv), (4, .int (nI (P 0 0 * P 0 1 - 1)))]) hx hb d_M_search_147 hl (by decide) rfl (fun ls hl => ?_)
            refine lv_goto (tgt := 275) hx hb d_M_search_149 (by decide) ?_
            refine lv_goto (tgt := 20) hx hb d_M_search_275 (by decide) ?_
            exact ih_20 (d := d) (p1 := p1 - 1) _ _ _ _ _ _ _ _ _ _ _ hplm (by omega) (by omega) hmi (by omega) (by omega) (by rw [← hres, srch, if_pos (show (if d < G 0 0 then 0 < nx else 3 < nx) by rw [if_pos c_52]; omega), if_neg (show ¬ p1 = 0 by omega), nxt, if_neg (Nat.not_lt.mpr c_117)]) (lv_sub hl [5, 6, 7, 1, 8, 0] rfl) hP hD hS
          · refine nr_iconst hx hb 1 d_M_search_120 (by decide) ?_
            refine lv_goto (tgt := 147) hx hb d_M_search_121 (by decide) ?_
            refine lv_istore (lv' := [(5, .int (nI 1)), (3, .int (nI (pl - 1))), (8, .int (nI (G 1 ((d * 6) + p1)))), (7, .int (nI 1)), (6, .int (nI ((d * 6) + p1))), (0, .ref (am 0)), (1, .int (nI lim)), (2, .int lv), (4, .int (nI (P 0 0 * P 0 1 - 1)))]) hx hb d_M_search_147 hl (by decide) rfl (fun ls hl => ?_)
            refine lv_goto (tgt := 275) hx hb d_M_search_149 (by decide) ?_
            refine lv_goto (tgt := 20) hx hb d_M_search_275 (by decide) ?_
            exact ih_20 (d := d) (p1 := p1 - 1) _ _ _ _ _ _ _ _ _ _ _ hplm (by omega) (by omega) hmi (by omega) (by omega) (by rw [← hres, srch, if_pos (show (if d < G 0 0 then 0 < nx else 3 < nx) by rw [if_pos c_52]; omega), if_neg (show ¬ p1 = 0 by omega), nxt, if_pos c_117]) (lv_sub hl [5, 6, 7, 1, 8, 0] rfl) hP hD hS

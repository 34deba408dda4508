def publ (P G : Nat → Nat → Nat) : Nat → Nat → Nat → Nat
  | 0, _, acc => acc
  | k + 1, i, acc => publ P G k (i + 1) (acc + (if i / 6 < P 0 1 ∧ i % 6 < P 0 0 ∧ G 2 i ≠ G 1 i then 1 else 0))
def pubM (P G : Nat → Nat → Nat) : Nat := publ P G 42 0 0
set_option maxHeartbeats 4000000 in
set_option maxRecDepth 100000 in
theorem k_M_publish (l : Launch) (D : va_G) (am : Nat → Nat) (cm : Nat → ClassId) (P G X : Nat → Nat → Nat) (hP0 : okP P) (hG0 : okG G) (hX0 : okX X) (sz : Nat) : Met l y_M_publish w_M_publish { frames := 0, cells := 0, slots := 0, locals := 0 } (rw_P [.ref (am 0)] D (wM am cm P G X) (tM cm) sz) (rw_Qi (fun (r : Int32) (u : Unit) => r = nI (pubM P G)) D (wM am cm P G X) (fun u => wM am cm P (up2 (upr G 2 (G 1)) 0 1 (G 0 1 + 1)) (up2 X 0 0 0)) sz) 0 0 (va_A (wM am cm P G X) sz) := by
  refine Met.ofW (cc := b_M_publish) (maxL := 4) (ret := (some .int)) (by decide) rfl ?_
  intro p e s m args below meth c s₁ B hml hv
  obtain ⟨rfl, hsz, hN, hP, hK, hD0⟩ := hv
  have hx := B.exec
  have hb := B.bytes
  have hr := B.returns
  have hts := atoms_spec (ws := w_M_publish) B.pre
  have htb : ∀ w ∈ TBG, w.before [.ref (am 0)].toArray s = true := fun w h => hts w (List.mem_cons_of_mem _ h)
  have hown : s.vm.findClass R_M = some m.cls := findClass_of_methodNamed B.named
  have hlocks := B.notSynchronized
  subst hsz
  have hD := hD0.self (sz := s.heap.size)
  unfold rw_Qi
  generalize hAe : va_A (wM am cm P G X) s.heap.size = A at hD ⊢
  have hA : ∀ q : Nat, s.heap.size ≤ q → A q := fun q h => by rw [← hAe]; exact Or.inr h
  have hS : va_S A s.heap s.heap [] := va_S.rf
  have hl := lv_entry ([.ref (am 0)]) (n := 4) (Nat.le_of_ble_eq_true rfl)
  rw [lg_entry_eq]
  generalize (lg_sl ([.ref (am 0)]) ++ List.replicate (4 - (lg_sl ([.ref (am 0)])).length) Slot.unset).toArray = ls at hl ⊢
  have hl : lv_has ls 4 [(0, .ref (am 0))] := hl
  refine nr_start hP hS (fun H locs hP hS => ?_)
  obtain ⟨h00, h01, h02, h03, h04, h05, hp1, hp2, hp3, hp4, hp5, hp6⟩ := id hP0
  obtain ⟨k00, k01, hg1, hg2⟩ := id hG0
  obtain ⟨x00, x01, x02, x03, hx1, hx2, hx3, hx4, hx5, hx6, hx7⟩ := id hX0
  refine lv_aload_n hx hb d_M_publish_0 rfl (lv_at hl 0 rfl) ?_
  refine nr_iconst hx hb 0 d_M_publish_1 (by decide) ?_
  refine va_put (D := D) (ci := 3) (v := .int (nI 0)) (ty := .int) (C := R_M) (T := F_M) (N := 26) hx hb htb u_M t_M t_M_ok n_M hown hK hP hD hS 0 rfl rfl 0 (by decide) (htb _ q579) (fun _ h9 => h9) rfl (by decide +kernel) rfl rfl (Nat.le_of_ble_eq_true rfl) d_M_publish_2 (fun H locs hP hD hS => ?_)
  replace hP : va_P D cls (wM am cm P G (up2 X 0 0 0)) H := hP
  replace hD : va_D A (wM am cm P G (up2 X 0 0 0)) := hD
  refine nr_iconst hx hb 0 d_M_publish_5 (by decide) ?_
  refine lv_istore_n (lv' := [(1, .int (nI 0)), (0, .ref (am 0))]) hx hb d_M_publish_6 rfl hl (by decide) rfl (fun ls hl => ?_)
  refine nr_iconst hx hb 0 d_M_publish_7 (by decide) ?_
  refine lv_istore_n (lv' := [(2, .int (nI 0)), (1, .int (nI 0)), (0, .ref (am 0))]) hx hb d_M_publish_8 rfl hl (by decide) rfl (fun ls hl => ?_)
  replace hP : ∃ (k i acc : Nat) (G1 : Nat → Nat → Nat), (i + k = 42) ∧ (∀ j, j < i → G1 2 j = G 1 j) ∧ (∀ j, i ≤ j → G1 2 j = G 2 j) ∧ (∀ r, r ≠ 2 → G1 r = G r) ∧ (publ P G k i acc = pubM P G) ∧ lv_has ls 4 [(0, .ref (am 0)), (1, .int (nI acc)), (2, .int (nI i))] ∧ va_P D cls (wM am cm P G1 (up2 X 0 0 0)) H ∧ va_D A (wM am cm P G1 (up2 X 0 0 0)) ∧ va_S A s.heap H locs := ⟨42, 0, 0, G, rfl, fun j h => absurd h (Nat.not_lt_zero j), fun _ _ => rfl, fun _ _ => rfl, rfl, lv_sub hl [2, 1, 0] rfl, hP, hD, hS⟩
  clear hl hD hS
  obtain ⟨k, i, acc, G1, hk, hcp, hge, hrr, hres, hl, hP, hD, hS⟩ := hP
  induction k generalizing i acc G1 ls H locs with
  | zero =>
    refine lv_iload_n hx hb d_M_publish_9 rfl (lv_at hl 2 rfl) ?_
    refine nr_bipush hx hb 42 d_M_publish_10 (by decide) ?_
    refine nr_icmp_ge (tgt := 88) hx hb (by omega) (by omega) d_M_publish_12 (by decide) (fun c_12 => ?_) (fun c_12 => by exfalso; omega)
    have h8 := nr_swap (q0 := 6) (g := fun k => nI (G 1 k)) hP hD rfl (fun j hj => by rw [hcp j (by omega)])
    clear hP hD
    obtain ⟨hP, hD⟩ := h8
    have e0 := hrr 0 (by decide)
    have e1 := hrr 1 (by decide)
    replace hP : va_P D cls (wM am cm P (upr G 2 (G 1)) (up2 X 0 0 0)) H := by have h9 := hP; simp only [wM, List.set, e0, e1] at h9; exact h9
    replace hD : va_D A (wM am cm P (upr G 2 (G 1)) (up2 X 0 0 0)) := by have h9 := hD; simp only [wM, List.set, e0, e1] at h9; exact h9
    refine lv_aload_n hx hb d_M_publish_88 rfl (lv_at hl 0 rfl) ?_
    refine lv_dup hx hb d_M_publish_89 rfl ?_
    refine va_get (D := D) (ci := 3) (v := .int (nI (G 0 1))) (C := R_M) (T := F_M) (N := 26) hx hb htb u_M hown hK hP 0 rfl rfl 10 (by decide) (htb _ q589) (fun _ h9 => h9) rfl d_M_publish_90 ?_
    refine nr_iconst hx hb 1 d_M_publish_93 (by decide) ?_
    refine nr_iadd hx hb d_M_publish_94 ?_
    refine va_put (D := D) (ci := 3) (v := .int (nI ((G 0 1) + 1))) (ty := .int) (C := R_M) (T := F_M) (N := 26) hx hb htb u_M t_M t_M_ok n_M hown hK hP hD hS 0 rfl rfl 10 (by decide) (htb _ q589) (fun _ h9 => h9) rfl (by decide +kernel) rfl rfl (Nat.le_of_ble_eq_true rfl) d_M_publish_95 (fun H locs hP hD hS => ?_)
    replace hP : va_P D cls (wM am cm P (up2 (upr G 2 (G 1)) 0 1 ((G 0 1) + 1)) (up2 X 0 0 0)) H := hP
    replace hD : va_D A (wM am cm P (up2 (upr G 2 (G 1)) 0 1 ((G 0 1) + 1)) (up2 X 0 0 0)) := hD
    refine lv_iload_n hx hb d_M_publish_98 rfl (lv_at hl 1 rfl) ?_
    exact W.iret (v := (nI acc)) hx hb hr (fun t ht hW => ⟨⟨_, (), rfl, by rw [← hres, publ], by rw [ht]; exact hP, hD⟩, hS.F ht⟩) hS.2.2 d_M_publish_99
  | succ k ih_9 =>
    refine lv_iload_n hx hb d_M_publish_9 rfl (lv_at hl 2 rfl) ?_
    refine nr_bipush hx hb 42 d_M_publish_10 (by decide) ?_
    refine nr_icmp_ge (tgt := 88) hx hb (by omega) (by omega) d_M_publish_12 (by decide) (fun c_12 => by exfalso; omega) (fun c_12 => ?_)
    refine lv_iload_n hx hb d_M_publish_15 rfl (lv_at hl 2 rfl) ?_
    refine nr_bipush hx hb 6 d_M_publish_16 (by decide) ?_
    refine nr_idiv hx hb (by omega) (by omega) (by omega) d_M_publish_18 ?_
    refine lv_aload_n hx hb d_M_publish_19 rfl (lv_at hl 0 rfl) ?_
    refine va_get (D := D) (ci := 3) (v := .int (nI (P 0 1))) (C := R_M) (T := F_M) (N := 26) hx hb htb u_M hown hK hP 0 rfl rfl 2 (by decide) (htb _ q581) (fun _ h9 => h9) rfl d_M_publish_20 ?_
    refine nr_icmp_ge (tgt := 41) hx hb (by omega) (by omega) d_M_publish_23 (by decide) (fun c_23 => ?_) (fun c_23 => ?_)
    · refine nr_iconst hx hb 0 d_M_publish_41 (by decide) ?_
      refine lv_istore_n (lv' := [(3, .int (nI 0)), (0, .ref (am 0)), (1, .int (nI acc)), (2, .int (nI i))]) hx hb d_M_publish_42 rfl hl (by decide) rfl (fun ls hl => ?_)
      refine lv_iload_n hx hb d_M_publish_43 rfl (lv_at hl 2 rfl) ?_
      refine lv_iload_n hx hb d_M_publish_44 rfl (lv_at hl 0 rfl) ?_
      refine nr_if_eq (tgt := 67) hx hb (by omega) d_M_publish_45 (by decide) (fun c_45 => ?_) (fun c_45 => by exfalso; omega)
      refine nr_iconst hx hb 0 d_M_publish_67 (by decide) ?_
      refine nr_iadd hx hb d_M_publish_68 ?_
      refine lv_istore_n (lv' := [(1, .int (nI (acc + 0))), (3, .int (nI 0)), (0, .ref (am 0)), (2, .int (nI i))]) hx hb d_M_publish_69 rfl hl (by decide) rfl (fun ls hl => ?_)
      refine lv_aload_n hx hb d_M_publish_70 rfl (lv_at hl 2 rfl) ?_
      refine va_get (D := D) (ci := 3) (v := .ref (am 6)) (C := R_M) (T := F_M) (N := 26) hx hb htb u_M hown hK hP 0 rfl rfl 9 (by decide) (htb _ q588) (fun _ h9 => h9) rfl d_M_publish_71 ?_
      refine lv_iload_n hx hb d_M_publish_74 rfl (lv_at hl 3 rfl) ?_
      refine lv_aload_n hx hb d_M_publish_75 rfl (lv_at hl 2 rfl) ?_
      refine va_get (D := D) (ci := 3) (v := .ref (am 3)) (C := R_M) (T := F_M) (N := 26) hx hb htb u_M hown hK hP 0 rfl rfl 6 (by decide) (htb _ q585) (fun _ h9 => h9) rfl d_M_publish_76 ?_
      refine lv_iload_n hx hb d_M_publish_79 rfl (lv_at hl 3 rfl) ?_
      refine nr_iald hx hb hK hP 3 2 rfl rfl (by omega) (by decide) d_M_publish_80 ?_
      refine nr_iast hx hb hK hP hD hS 6 5 rfl rfl (by omega) (by decide) d_M_publish_81 (fun H locs hP hD hS => ?_)
      replace hP : va_P D cls (wM am cm P (up2 G1 2 i (G1 1 i)) (up2 X 0 0 0)) H := hP
      replace hD : va_D A (wM am cm P (up2 G1 2 i (G1 1 i)) (up2 X 0 0 0)) := hD
      refine nr_iinc (k := 3) (lv' := [(2, .int (nI (i + 1))), (1, .int (nI (acc + 0))), (3, .int (nI 0)), (0, .ref (am 0))]) hx hb d_M_publish_82 hl rfl (by decide) rfl (fun ls hl => ?_)
      refine lv_goto (tgt := 9) hx hb d_M_publish_85 (by decide) ?_
      exact ih_9 _ _ _ _ _ _ (by omega) (fun j h => by show (if j = i then G1 1 i else G1 2 j) = G 1 j; split; (rename_i hj; rw [hj, congrFun (hrr 1 (by decide)) i]); exact hcp j (by omega)) (fun j h => by show (if j = i then G1 1 i else G1 2 j) = G 2 j; rw [if_neg (by omega)]; exact hge j (by omega)) (fun r h => by rw [← hrr r h]; funext k; simp [up2, h]) (by rw [← hres, publ, if_neg (fun h => absurd h.1 (by omega))]) (lv_sub hl [3, 1, 0] rfl) hP hD hS
    · refine lv_iload_n hx hb d_M_publish_26 rfl (lv_at hl 2 rfl) ?_
      refine nr_bipush hx hb 6 d_M_publish_27 (by decide) ?_
      refine nr_irem hx hb (by omega) (by omega) (by omega) d_M_publish_29 ?_
      refine lv_aload_n hx hb d_M_publish_30 rfl (lv_at hl 0 rfl) ?_
      refine va_get (D := D) (ci := 3) (v := .int (nI (P 0 0))) (C := R_M) (T := F_M) (N := 26) hx hb htb u_M hown hK hP 0 rfl rfl 1 (by decide) (htb _ q580) (fun _ h9 => h9) rfl d_M_publish_31 ?_
      refine nr_icmp_ge (tgt := 41) hx hb (by omega) (by omega) d_M_publish_34 (by decide) (fun c_34 => ?_) (fun c_34 => ?_)
      · refine nr_iconst hx hb 0 d_M_publish_41 (by decide) ?_
        refine lv_istore_n (lv' := [(3, .int (nI 0)), (0, .ref (am 0)), (1, .int (nI acc)), (2, .int (nI i))]) hx hb d_M_publish_42 rfl hl (by decide) rfl (fun ls hl => ?_)
        refine lv_iload_n hx hb d_M_publish_43 rfl (lv_at hl 2 rfl) ?_
        refine lv_iload_n hx hb d_M_publish_44 rfl (lv_at hl 0 rfl) ?_
        refine nr_if_eq (tgt := 67) hx hb (by omega) d_M_publish_45 (by decide) (fun c_45 => ?_) (fun c_45 => by exfalso; omega)
        refine nr_iconst hx hb 0 d_M_publish_67 (by decide) ?_
        refine nr_iadd hx hb d_M_publish_68 ?_
        refine lv_istore_n (lv' := [(1, .int (nI (acc + 0))), (3, .int (nI 0)), (0, .ref (am 0)), (2, .int (nI i))]) hx hb d_M_publish_69 rfl hl (by decide) rfl (fun ls hl => ?_)
        refine lv_aload_n hx hb d_M_publish_70 rfl (lv_at hl 2 rfl) ?_
        refine va_get (D := D) (ci := 3) (v := .ref (am 6)) (C := R_M) (T := F_M) (N := 26) hx hb htb u_M hown hK hP 0 rfl rfl 9 (by decide) (htb _ q588) (fun _ h9 => h9) rfl d_M_publish_71 ?_
        refine lv_iload_n hx hb d_M_publish_74 rfl (lv_at hl 3 rfl) ?_
        refine lv_aload_n hx hb d_M_publish_75 rfl (lv_at hl 2 rfl) ?_
        refine va_get (D := D) (ci := 3) (v := .ref (am 3)) (C := R_M) (T := F_M) (N := 26) hx hb htb u_M hown hK hP 0 rfl rfl 6 (by decide) (htb _ q585) (fun _ h9 => h9) rfl d_M_publish_76 ?_
        refine lv_iload_n hx hb d_M_publish_79 rfl (lv_at hl 3 rfl) ?_
        refine nr_iald hx hb hK hP 3 2 rfl rfl (by omega) (by decide) d_M_publish_80 ?_
        refine nr_iast hx hb hK hP hD hS 6 5 rfl rfl (by omega) (by decide) d_M_publish_81 (fun H locs hP hD hS => ?_)
        replace hP : va_P D cls (wM am cm P (up2 G1 2 i (G1 1 i)) (up2 X 0 0 0)) H := hP
        replace hD : va_D A (wM am cm P (up2 G1 2 i (G1 1 i)) (up2 X 0 0 0)) := hD
        refine nr_iinc (k := 3) (lv' := [(2, .int (nI (i + 1))), (1, .int (nI (acc + 0))), (3, .int (nI 0)), (0, .ref (am 0))]) hx hb d_M_publish_82 hl rfl (by decide) rfl (fun ls hl => ?_)
        refine lv_goto (tgt := 9) hx hb d_M_publish_85 (by decide) ?_
        exact ih_9 _ _ _ _ _ _ (by omega) (fun j h => by show (if j = i then G1 1 i else G1 2 j) = G 1 j; split; (rename_i hj; rw [hj, congrFun (hrr 1 (by decide)) i]); exact hcp j (by omega)) (fun j h => by show (if j = i then G1 1 i else G1 2 j) = G 2 j; rw [if_neg (by omega)]; exact hge j (by omega)) (fun r h => by rw [← hrr r h]; funext k; simp [up2, h]) (by rw [← hres, publ, if_neg (fun h => absurd h.2.1 (by omega))]) (lv_sub hl [3, 1, 0] rfl) hP hD hS
      · refine nr_iconst hx hb 1 d_M_publish_37 (by decide) ?_
        refine lv_goto (tgt := 42) hx hb d_M_publish_38 (by decide) ?_
        refine lv_istore_n (lv' := [(3, .int (nI 1)), (0, .ref (am 0)), (1, .int (nI acc)), (2, .int (nI i))]) hx hb d_M_publish_42 rfl hl (by decide) rfl (fun ls hl => ?_)
        refine lv_iload_n hx hb d_M_publish_43 rfl (lv_at hl 2 rfl) ?_
        refine lv_iload_n hx hb d_M_publish_44 rfl (lv_at hl 0 rfl) ?_
        refine nr_if_eq (tgt := 67) hx hb (by omega) d_M_publish_45 (by decide) (fun c_45 => by exfalso; omega) (fun c_45 => ?_)
        refine lv_aload_n hx hb d_M_publish_48 rfl (lv_at hl 1 rfl) ?_
        refine va_get (D := D) (ci := 3) (v := .ref (am 6)) (C := R_M) (T := F_M) (N := 26) hx hb htb u_M hown hK hP 0 rfl rfl 9 (by decide) (htb _ q588) (fun _ h9 => h9) rfl d_M_publish_49 ?_
        refine lv_iload_n hx hb d_M_publish_52 rfl (lv_at hl 3 rfl) ?_
        refine nr_iald hx hb hK hP 6 5 rfl rfl (by omega) (by decide) d_M_publish_53 ?_
        refine lv_aload_n hx hb d_M_publish_54 rfl (lv_at hl 1 rfl) ?_
        refine va_get (D := D) (ci := 3) (v := .ref (am 3)) (C := R_M) (T := F_M) (N := 26) hx hb htb u_M hown hK hP 0 rfl rfl 6 (by decide) (htb _ q585) (fun _ h9 => h9) rfl d_M_publish_55 ?_
        refine lv_iload_n hx hb d_M_publish_58 rfl (lv_at hl 3 rfl) ?_
        refine nr_iald hx hb hK hP 3 2 rfl rfl (by omega) (by decide) d_M_publish_59 ?_
        refine nr_icmp_eq (tgt := 67) hx hb (by have h1 := hg1 i; have h2 := hg2 i; have h3 := hge i (Nat.le_refl i); have h4 := congrFun (hrr 1 (by decide)) i; omega) (by have h1 := hg1 i; have h2 := hg2 i; have h3 := hge i (Nat.le_refl i); have h4 := congrFun (hrr 1 (by decide)) i; omega) d_M_publish_60 (by decide) (fun c_60 => ?_) (fun c_60 => ?_)
        · refine nr_iconst hx hb 0 d_M_publish_67 (by decide) ?_
          refine nr_iadd hx hb d_M_publish_68 ?_
          refine lv_istore_n (lv' := [(1, .int (nI (acc + 0))), (3, .int (nI 1)), (0, .ref (am 0)), (2, .int (nI i))]) hx hb d_M_publish_69 rfl hl (by decide) rfl (fun ls hl => ?_)
          refine lv_aload_n hx hb d_M_publish_70 rfl (lv_at hl 2 rfl) ?_
          refine va_get (D := D) (ci := 3) (v := .ref (am 6)) (C := R_M) (T := F_M) (N := 26) hx hb htb u_M hown hK hP 0 rfl rfl 9 (by decide) (htb _ q588) (fun _ h9 => h9) rfl d_M_publish_71 ?_
          refine lv_iload_n hx hb d_M_publish_74 rfl (lv_at hl 3 rfl) ?_
          refine lv_aload_n hx hb d_M_publish_75 rfl (lv_at hl 2 rfl) ?_
          refine va_get (D := D) (ci := 3) (v := .ref (am 3)) (C := R_M) (T := F_M) (N := 26) hx hb htb u_M hown hK hP 0 rfl rfl 6 (by decide) (htb _ q585) (fun _ h9 => h9) rfl d_M_publish_76 ?_
          refine lv_iload_n hx hb d_M_publish_79 rfl (lv_at hl 3 rfl) ?_
          refine nr_iald hx hb hK hP 3 2 rfl rfl (by omega) (by decide) d_M_publish_80 ?_
          refine nr_iast hx hb hK hP hD hS 6 5 rfl rfl (by omega) (by decide) d_M_publish_81 (fun H locs hP hD hS => ?_)
          replace hP : va_P D cls (wM am cm P (up2 G1 2 i (G1 1 i)) (up2 X 0 0 0)) H := hP
          replace hD : va_D A (wM am cm P (up2 G1 2 i (G1 1 i)) (up2 X 0 0 0)) := hD
          refine nr_iinc (k := 3) (lv' := [(2, .int (nI (i + 1))), (1, .int (nI (acc + 0))), (3, .int (nI 1)), (0, .ref (am 0))]) hx hb d_M_publish_82 hl rfl (by decide) rfl (fun ls hl => ?_)
          refine lv_goto (tgt := 9) hx hb d_M_publish_85 (by decide) ?_
          exact ih_9 _ _ _ _ _ _ (by omega) (fun j h => by show (if j = i then G1 1 i else G1 2 j) = G 1 j; split; (rename_i hj; rw [hj, congrFun (hrr 1 (by decide)) i]); exact hcp j (by omega)) (fun j h => by show (if j = i then G1 1 i else G1 2 j) = G 2 j; rw [if_neg (by omega)]; exact hge j (by omega)) (fun r h => by rw [← hrr r h]; funext k; simp [up2, h]) (by rw [← hres, publ, if_neg (fun h => h.2.2 (by rw [← hge i (Nat.le_refl i), ← congrFun (hrr 1 (by decide)) i]; exact c_60))]) (lv_sub hl [3, 1, 0] rfl) hP hD hS
        · refine nr_iconst hx hb 1 d_M_publish_63 (by decide) ?_
          refine lv_goto (tgt := 68) hx hb d_M_publish_64 (by decide) ?_
          refine nr_iadd hx hb d_M_publish_68 ?_
          refine lv_istore_n (lv' := [(1, .int (nI (acc + 1))), (3, .int (nI 1)), (0, .ref (am 0)), (2, .int (nI i))]) hx hb d_M_publish_69 rfl hl (by decide) rfl (fun ls hl => ?_)
          refine lv_aload_n hx hb d_M_publish_70 rfl (lv_at hl 2 rfl) ?_
          refine va_get (D := D) (ci := 3) (v := .ref (am 6)) (C := R_M) (T := F_M) (N := 26) hx hb htb u_M hown hK hP 0 rfl rfl 9 (by decide) (htb _ q588) (fun _ h9 => h9) rfl d_M_publish_71 ?_
          refine lv_iload_n hx hb d_M_publish_74 rfl (lv_at hl 3 rfl) ?_
          refine lv_aload_n hx hb d_M_publish_75 rfl (lv_at hl 2 rfl) ?_
          refine va_get (D := D) (ci := 3) (v := .ref (am 3)) (C := R_M) (T := F_M) (N := 26) hx hb htb u_M hown hK hP 0 rfl rfl 6 (by decide) (htb _ q585) (fun _ h9 => h9) rfl d_M_publish_76 ?_
          refine lv_iload_n hx hb d_M_publish_79 rfl (lv_at hl 3 rfl) ?_
          refine nr_iald hx hb hK hP 3 2 rfl rfl (by omega) (by decide) d_M_publish_80 ?_
          refine nr_iast hx hb hK hP hD hS 6 5 rfl rfl (by omega) (by decide) d_M_publish_81 (fun H locs hP hD hS => ?_)
          replace hP : va_P D cls (wM am cm P (up2 G1 2 i (G1 1 i)) (up2 X 0 0 0)) H := hP
          replace hD : va_D A (wM am cm P (up2 G1 2 i (G1 1 i)) (up2 X 0 0 0)) := hD
          refine nr_iinc (k := 3) (lv' := [(2, .int (nI (i + 1))), (1, .int (nI (acc + 1))), (3, .int (nI 1)), (0, .ref (am 0))]) hx hb d_M_publish_82 hl rfl (by decide) rfl (fun ls hl => ?_)
          refine lv_goto (tgt := 9) hx hb d_M_publish_85 (by decide) ?_
          exact ih_9 _ _ _ _ _ _ (by omega) (fun j h => by show (if j = i then G1 1 i else G1 2 j) = G 1 j; split; (rename_i hj; rw [hj, congrFun (hrr 1 (by decide)) i]); exact hcp j (by omega)) (fun j h => by show (if j = i then G1 1 i else G1 2 j) = G 2 j; rw [if_neg (by omega)]; exact hge j (by omega)) (fun r h => by rw [← hrr r h]; funext k; simp [up2, h]) (by rw [← hres, publ, if_pos ⟨c_23, c_34, by rw [← hge i (Nat.le_refl i), ← congrFun (hrr 1 (by decide)) i]; exact c_60⟩]) (lv_sub hl [3, 1, 0] rfl) hP hD hS
set_option maxHeartbeats 4000000 in
set_option maxRecDepth 100000 in
theorem k_M_days (l : Launch) (D : va_G) (am : Nat → Nat) (cm : Nat → ClassId) (P G X : Nat → Nat → Nat) (hP0 : okP P) (hG0 : okG G) (hX0 : okX X) (d : Nat) (hd7 : d ≤ 7) (sz : Nat) : Met l y_M_days w_M_days { frames := 1, cells := 0, slots := 0, locals := 24 } (rw_P [.ref (am 0), .int (nI d)] D (wM am cm P G X) (tM cm) sz) (rw_Qv (fun u : Unit => True) D (wM am cm P G X) (fun u => wM am cm (sdP P d) (upr (up2 G 0 0 0) 1 (fun _ => 0)) (up2 X 0 0 0)) sz) 0 0 (va_A (wM am cm P G X) sz) := by
  refine Met.ofW (cc := b_M_days) (maxL := 3) (ret := none) (by decide) rfl ?_
  intro p e s m args below meth c s₁ B hml hv
  obtain ⟨rfl, hsz, hN, hP, hK, hD0⟩ := hv
  have hx := B.exec
  have hb := B.bytes
  have hr := B.returns
  have hts := atoms_spec (ws := w_M_days) B.pre
  have htb : ∀ w ∈ TBG, w.before [.ref (am 0), .int (nI d)].toArray s = true := fun w h => hts w (List.mem_cons_of_mem _ h)
  have hown : s.vm.findClass R_M = some m.cls := findClass_of_methodNamed B.named
  have hlocks := B.notSynchronized
  subst hsz
  have hD := hD0.self (sz := s.heap.size)
  unfold rw_Qv
  generalize hAe : va_A (wM am cm P G X) s.heap.size = A at hD ⊢
  have hA : ∀ q : Nat, s.heap.size ≤ q → A q := fun q h => by rw [← hAe]; exact Or.inr h
  have hS : va_S A s.heap s.heap [] := va_S.rf
  have hl := lv_entry ([.ref (am 0), .int (nI d)]) (n := 3) (Nat.le_of_ble_eq_true rfl)
  rw [lg_entry_eq]
  generalize (lg_sl ([.ref (am 0), .int (nI d)]) ++ List.replicate (3 - (lg_sl ([.ref (am 0), .int (nI d)])).length) Slot.unset).toArray = ls at hl ⊢
  have hl : lv_has ls 3 [(0, .ref (am 0)), (1, .int (nI d))] := hl
  refine nr_start hP hS (fun H locs hP hS => ?_)
  obtain ⟨h00, h01, h02, h03, h04, h05, hp1, hp2, hp3, hp4, hp5, hp6⟩ := id hP0
  obtain ⟨k00, k01, hg1, hg2⟩ := id hG0
  obtain ⟨x00, x01, x02, x03, hx1, hx2, hx3, hx4, hx5, hx6, hx7⟩ := id hX0
  refine lv_aload_n hx hb d_M_days_0 rfl (lv_at hl 0 rfl) ?_
  refine lv_iload_n hx hb d_M_days_1 rfl (lv_at hl 1 rfl) ?_
  refine nr_iconst hx hb 0 d_M_days_2 (by decide) ?_
  refine nr_bipush hx hb 7 d_M_days_3 (by decide) ?_
  refine nr_calli (va_runS (As := [.int (nI d), .int (nI 0), .int (nI 7)]) (rest := [.ref (am 0)]) ⟨hx, hb, hml, hown, hts⟩ (c_M_in l D (nI d) (nI 0) (nI 7)) ⟨callB_of 3 hts (gTB q_M_in) rfl rfl rfl (htb _ q4) (htb _ q666) hd_M_in ⟨Nat.le_of_ble_eq_true rfl, Nat.le_of_ble_eq_true rfl⟩, (htb _ q667)⟩ ⟨ro_blind, ro_pre hN (hP.sub (ws' := []) [] rfl) (hK.sub (tys' := []) [] rfl)⟩ rfl rfl hl.1 rfl (lv_room (Nat.le_of_ble_eq_true rfl)) d_M_days_5 ⟨Nat.le_of_ble_eq_true rfl, Nat.le_of_ble_eq_true rfl⟩) (fun r_1 hr_1 => ?_)
  subst hr_1
  refine nr_top (y := nI 1) (by rw [in_n (by omega) hd7 (by omega)]; rfl) ?_
  refine nr_if_ne (tgt := 15) hx hb (by omega) d_M_days_8 (by decide) (fun c_8 => ?_) (fun c_8 => by exfalso; omega)
  refine nr_iconst hx hb 0 d_M_days_15 (by decide) ?_
  refine nr_iconst hx hb 0 d_M_days_16 (by decide) ?_
  refine nr_iconst hx hb 0 d_M_days_17 (by decide) ?_
  refine nr_iconst hx hb 0 d_M_days_18 (by decide) ?_
  refine nr_callwi (wr := ([] : va_W)) (va_runV (As := [.int (nI 0), .int (nI 0), .int (nI 0), .int (nI 0)]) (rest := []) ⟨hx, hb, hml, hown, hts⟩ (c_M_throwing l D am cm P G X 0 0 0 0 (by decide) (by decide) (by decide) (by decide) H.size) ⟨callB_of 4 hts (gTB q_M_throwing) rfl rfl rfl (htb _ q4) (htb _ q669) hd_M_throwing ⟨Nat.le_of_ble_eq_true rfl, Nat.le_of_ble_eq_true rfl⟩, (htb _ q671), (htb _ sel_M_throwing)⟩ ⟨rw_blind, va_recv (hK.sub (tys' := []) [] rfl) hP (ci := 3) (q0 := 0) rfl rfl, rw_pre hN (hP.sub (ws' := (wM am cm P G X)) [0, 1, 2, 3, 4, 5, 6, 7, 8, 9, 10, 11, 12, 13, 14] rfl) (hK.sub (tys' := (tM cm)) [0, 1, 2, 3, 4, 5, 6, 7, 8, 9, 10, 11, 12, 13] rfl) (hD.sub (ws' := (wM am cm P G X)) [0, 1, 2, 3, 4, 5, 6, 7, 8, 9, 10, 11, 12, 13, 14] (by decide) rfl)⟩ rfl rfl hl.1 rfl (lv_room (Nat.le_of_ble_eq_true rfl)) d_M_days_19 ⟨Nat.le_of_ble_eq_true rfl, Nat.le_of_ble_eq_true rfl⟩) hP hD hS hA [0, 1, 2, 3, 4, 5, 6, 7, 8, 9, 10, 11, 12, 13, 14] [] rfl rfl (by decide) (by decide) (fun r_2 u_2 H locs hr_2 hP hD hS => ?_)
  subst hr_2
  replace hP := hP.sub (ws' := wM am cm P G (up2 X 0 0 0)) [0, 1, 2, 3, 4, 5, 6, 7, 8, 9, 10, 11, 12, 13, 14] rfl
  replace hD := hD.sub (ws' := wM am cm P G (up2 X 0 0 0)) [0, 1, 2, 3, 4, 5, 6, 7, 8, 9, 10, 11, 12, 13, 14] (by decide) rfl
  refine nr_top (y := nI 0) rfl ?_
  refine nr_if_eq (tgt := 26) hx hb (by omega) d_M_days_22 (by decide) (fun c_22 => ?_) (fun c_22 => by exfalso; omega)
  refine lv_aload_n hx hb d_M_days_26 rfl (lv_at hl 0 rfl) ?_
  refine lv_iload_n hx hb d_M_days_27 rfl (lv_at hl 1 rfl) ?_
  refine va_put (D := D) (ci := 3) (v := .int (nI d)) (ty := .int) (C := R_M) (T := F_M) (N := 26) hx hb htb u_M t_M t_M_ok n_M hown hK hP hD hS 0 rfl rfl 2 (by decide) (htb _ q581) (fun _ h9 => h9) rfl (by decide +kernel) rfl rfl (Nat.le_of_ble_eq_true rfl) d_M_days_28 (fun H locs hP hD hS => ?_)
  replace hP : va_P D cls (wM am cm (up2 P 0 1 d) G (up2 X 0 0 0)) H := hP
  replace hD : va_D A (wM am cm (up2 P 0 1 d) G (up2 X 0 0 0)) := hD
  refine lv_aload_n hx hb d_M_days_31 rfl (lv_at hl 0 rfl) ?_
  refine nr_iconst hx hb 0 d_M_days_32 (by decide) ?_
  refine va_put (D := D) (ci := 3) (v := .int (nI 0)) (ty := .int) (C := R_M) (T := F_M) (N := 26) hx hb htb u_M t_M t_M_ok n_M hown hK hP hD hS 0 rfl rfl 3 (by decide) (htb _ q582) (fun _ h9 => h9) rfl (by decide +kernel) rfl rfl (Nat.le_of_ble_eq_true rfl) d_M_days_33 (fun H locs hP hD hS => ?_)
  replace hP : va_P D cls (wM am cm (up2 P 0 1 d) (up2 G 0 0 0) (up2 X 0 0 0)) H := hP
  replace hD : va_D A (wM am cm (up2 P 0 1 d) (up2 G 0 0 0) (up2 X 0 0 0)) := hD
  refine lv_aload_n hx hb d_M_days_36 rfl (lv_at hl 0 rfl) ?_
  refine nr_iconst hx hb 0 d_M_days_37 (by decide) ?_
  refine va_put (D := D) (ci := 3) (v := .int (nI 0)) (ty := .int) (C := R_M) (T := F_M) (N := 26) hx hb htb u_M t_M t_M_ok n_M hown hK hP hD hS 0 rfl rfl 17 (by decide) (htb _ q596) (fun _ h9 => h9) rfl (by decide +kernel) rfl rfl (Nat.le_of_ble_eq_true rfl) d_M_days_38 (fun H locs hP hD hS => ?_)
  replace hP : va_P D cls (wM am cm (up2 (up2 P 0 1 d) 0 5 0) (up2 G 0 0 0) (up2 X 0 0 0)) H := hP
  replace hD : va_D A (wM am cm (up2 (up2 P 0 1 d) 0 5 0) (up2 G 0 0 0) (up2 X 0 0 0)) := hD
  refine nr_iconst hx hb 0 d_M_days_41 (by decide) ?_
  refine lv_istore_n (lv' := [(2, .int (nI 0)), (0, .ref (am 0)), (1, .int (nI d))]) hx hb d_M_days_42 rfl hl (by decide) rfl (fun ls hl => ?_)
  replace hP : ∃ (k i : Nat) (G1 : Nat → Nat → Nat), (i + k = 42) ∧ (∀ j, j < i → G1 1 j = 0) ∧ (∀ r, r ≠ 1 → G1 r = up2 G 0 0 0 r) ∧ lv_has ls 3 [(0, .ref (am 0)), (1, .int (nI d)), (2, .int (nI i))] ∧ va_P D cls (wM am cm (up2 (up2 P 0 1 d) 0 5 0) G1 (up2 X 0 0 0)) H ∧ va_D A (wM am cm (up2 (up2 P 0 1 d) 0 5 0) G1 (up2 X 0 0 0)) ∧ va_S A s.heap H locs := ⟨42, 0, up2 G 0 0 0, rfl, fun j h => absurd h (Nat.not_lt_zero j), fun _ _ => rfl, lv_sub hl [1, 2, 0] rfl, hP, hD, hS⟩
  clear hl hD hS
  obtain ⟨k, i, G1, hk, hf, hrr, hl, hP, hD, hS⟩ := hP
  induction k generalizing i G1 ls H locs with
  | zero =>
    refine lv_iload_n hx hb d_M_days_43 rfl (lv_at hl 2 rfl) ?_
    refine nr_bipush hx hb 42 d_M_days_44 (by decide) ?_
    refine nr_icmp_ge (tgt := 62) hx hb (by omega) (by omega) d_M_days_46 (by decide) (fun c_46 => ?_) (fun c_46 => by exfalso; omega)
    have h8 := nr_swap (q0 := 3) (g := fun _ => nI 0) hP hD rfl (fun j hj => by rw [hf j (by omega)])
    clear hP hD
    obtain ⟨hP, hD⟩ := h8
    have e0 := hrr 0 (by decide)
    have e2 := hrr 2 (by decide)
    replace hP : va_P D cls (wM am cm (up2 (up2 P 0 1 d) 0 5 0) (upr (up2 G 0 0 0) 1 (fun _ => 0)) (up2 X 0 0 0)) H := by have h9 := hP; simp only [wM, List.set, e0, e2] at h9; exact h9
    replace hD : va_D A (wM am cm (up2 (up2 P 0 1 d) 0 5 0) (upr (up2 G 0 0 0) 1 (fun _ => 0)) (up2 X 0 0 0)) := by have h9 := hD; simp only [wM, List.set, e0, e2] at h9; exact h9
    refine nr_iconst hx hb 0 d_M_days_62 (by decide) ?_
    refine lv_istore_n (lv' := [(2, .int (nI 0)), (0, .ref (am 0)), (1, .int (nI d))]) hx hb d_M_days_63 rfl hl (by decide) rfl (fun ls hl => ?_)
    replace hP : ∃ (k i : Nat) (P1 : Nat → Nat → Nat), (i + k = 28) ∧ (∀ j, j < i → P1 3 j = 0 ∧ P1 4 j = 0) ∧ (∀ r, r ≠ 3 → r ≠ 4 → P1 r = (up2 (up2 P 0 1 d) 0 5 0) r) ∧ lv_has ls 3 [(0, .ref (am 0)), (1, .int (nI d)), (2, .int (nI i))] ∧ va_P D cls (wM am cm P1 (upr (up2 G 0 0 0) 1 (fun _ => 0)) (up2 X 0 0 0)) H ∧ va_D A (wM am cm P1 (upr (up2 G 0 0 0) 1 (fun _ => 0)) (up2 X 0 0 0)) ∧ va_S A s.heap H locs := ⟨28, 0, up2 (up2 P 0 1 d) 0 5 0, rfl, fun j h => absurd h (Nat.not_lt_zero j), fun _ _ _ => rfl, lv_sub hl [1, 2, 0] rfl, hP, hD, hS⟩
    clear hl hD hS
    obtain ⟨k, i, P1, hk, hf, hrr, hl, hP, hD, hS⟩ := hP
    induction k generalizing i P1 ls H locs with
    | zero =>
      refine lv_iload_n hx hb d_M_days_64 rfl (lv_at hl 2 rfl) ?_
      refine nr_bipush hx hb 28 d_M_days_65 (by decide) ?_
      refine nr_icmp_ge (tgt := 90) hx hb (by omega) (by omega) d_M_days_67 (by decide) (fun c_67 => ?_) (fun c_67 => by exfalso; omega)
      have h8 := nr_swap (q0 := 7) (g := fun _ => nI 0) hP hD rfl (fun j hj => by rw [(hf j (by omega)).1])
      clear hP hD
      obtain ⟨hP, hD⟩ := h8
      have h8 := nr_swap (q0 := 8) (g := fun _ => nI 0) hP hD rfl (fun j hj => by rw [(hf j (by omega)).2])
      clear hP hD
      obtain ⟨hP, hD⟩ := h8
      have f0 := hrr 0 (by decide) (by decide)
      have f1 := hrr 1 (by decide) (by decide)
      have f2 := hrr 2 (by decide) (by decide)
      have f5 := hrr 5 (by decide) (by decide)
      replace hP : va_P D cls (wM am cm (upr (upr (up2 (up2 P 0 1 d) 0 5 0) 3 (fun _ => 0)) 4 (fun _ => 0)) (upr (up2 G 0 0 0) 1 (fun _ => 0)) (up2 X 0 0 0)) H := by have h9 := hP; simp only [wM, List.set, f0, f1, f2, f5] at h9; exact h9
      replace hD : va_D A (wM am cm (upr (upr (up2 (up2 P 0 1 d) 0 5 0) 3 (fun _ => 0)) 4 (fun _ => 0)) (upr (up2 G 0 0 0) 1 (fun _ => 0)) (up2 X 0 0 0)) := by have h9 := hD; simp only [wM, List.set, f0, f1, f2, f5] at h9; exact h9
      refine nr_iconst hx hb 0 d_M_days_90 (by decide) ?_
      refine lv_istore_n (lv' := [(2, .int (nI 0)), (0, .ref (am 0)), (1, .int (nI d))]) hx hb d_M_days_91 rfl hl (by decide) rfl (fun ls hl => ?_)
      replace hP : ∃ (k i : Nat) (P1 : Nat → Nat → Nat), (i + k = 168) ∧ (∀ j, j < i → P1 5 j = 0) ∧ (∀ r, r ≠ 5 → P1 r = (upr (upr (up2 (up2 P 0 1 d) 0 5 0) 3 (fun _ => 0)) 4 (fun _ => 0)) r) ∧ lv_has ls 3 [(0, .ref (am 0)), (1, .int (nI d)), (2, .int (nI i))] ∧ va_P D cls (wM am cm P1 (upr (up2 G 0 0 0) 1 (fun _ => 0)) (up2 X 0 0 0)) H ∧ va_D A (wM am cm P1 (upr (up2 G 0 0 0) 1 (fun _ => 0)) (up2 X 0 0 0)) ∧ va_S A s.heap H locs := ⟨168, 0, upr (upr (up2 (up2 P 0 1 d) 0 5 0) 3 (fun _ => 0)) 4 (fun _ => 0), rfl, fun j h => absurd h (Nat.not_lt_zero j), fun _ _ => rfl, lv_sub hl [1, 2, 0] rfl, hP, hD, hS⟩
      clear hl hD hS
      obtain ⟨k, i, P1, hk, hf, hrr, hl, hP, hD, hS⟩ := hP
      induction k generalizing i P1 ls H locs with
      | zero =>
        refine lv_iload_n hx hb d_M_days_92 rfl (lv_at hl 2 rfl) ?_
        refine nr_sipush hx hb 168 d_M_days_93 (by decide) ?_
        refine nr_icmp_ge (tgt := 112) hx hb (by omega) (by omega) d_M_days_96 (by decide) (fun c_96 => ?_) (fun c_96 => by exfalso; omega)
        obtain ⟨hP, hD⟩ := nr_swap (q0 := 9) (g := fun _ => nI 0) hP hD rfl (fun j hj => by rw [hf j (by omega)])
        have g0 := hrr 0 (by decide)
        have g1 := hrr 1 (by decide)
        have g2 := hrr 2 (by decide)
        have g3 := hrr 3 (by decide)
        have g4 := hrr 4 (by decide)
        have hP : va_P D cls (wM am cm (sdP P d) (upr (up2 G 0 0 0) 1 (fun _ => 0)) (up2 X 0 0 0)) H := by have h9 := hP; simp only [wM, List.set, g0, g1, g2, g3, g4] at h9; exact h9
        have hD : va_D A (wM am cm (sdP P d) (upr (up2 G 0 0 0) 1 (fun _ => 0)) (up2 X 0 0 0)) := by have h9 := hD; simp only [wM, List.set, g0, g1, g2, g3, g4] at h9; exact h9
        exact W.vret hx hb hr (fun t ht hW => ⟨⟨(), rfl, trivial, by rw [ht]; exact hP, hD⟩, hS.F ht⟩) hS.2.2 d_M_days_112
      | succ k ih_92 =>
        refine lv_iload_n hx hb d_M_days_92 rfl (lv_at hl 2 rfl) ?_
        refine nr_sipush hx hb 168 d_M_days_93 (by decide) ?_
        refine nr_icmp_ge (tgt := 112) hx hb (by omega) (by omega) d_M_days_96 (by decide) (fun c_96 => by exfalso; omega) (fun c_96 => ?_)
        refine lv_aload_n hx hb d_M_days_99 rfl (lv_at hl 0 rfl) ?_
        refine va_get (D := D) (ci := 3) (v := .ref (am 9)) (C := R_M) (T := F_M) (N := 26) hx hb htb u_M hown hK hP 0 rfl rfl 13 (by decide) (htb _ q592) (fun _ h9 => h9) rfl d_M_days_100 ?_
        refine lv_iload_n hx hb d_M_days_103 rfl (lv_at hl 2 rfl) ?_
        refine nr_iconst hx hb 0 d_M_days_104 (by decide) ?_
        refine nr_zast hx hb hK hP hD hS 9 8 rfl rfl (by omega) (by decide) (by omega) d_M_days_105 (fun H locs hP hD hS => ?_)
        replace hP : va_P D cls (wM am cm (up2 P1 5 i 0) (upr (up2 G 0 0 0) 1 (fun _ => 0)) (up2 X 0 0 0)) H := hP
        replace hD : va_D A (wM am cm (up2 P1 5 i 0) (upr (up2 G 0 0 0) 1 (fun _ => 0)) (up2 X 0 0 0)) := hD
        refine nr_iinc (k := 2) (lv' := [(2, .int (nI (i + 1))), (0, .ref (am 0)), (1, .int (nI d))]) hx hb d_M_days_106 hl rfl (by decide) rfl (fun ls hl => ?_)
        refine lv_goto (tgt := 92) hx hb d_M_days_109 (by decide) ?_
        exact ih_92 _ _ _ _ _ (by omega) (fun j h => by show (if j = i then 0 else P1 5 j) = 0; split; rfl; exact hf j (by omega)) (fun r h => by rw [← hrr r h]; funext k; simp [up2, h]) (lv_sub hl [1, 2, 0] rfl) hP hD hS
    | succ k ih_64 =>
      refine lv_iload_n hx hb d_M_days_64 rfl (lv_at hl 2 rfl) ?_
      refine nr_bipush hx hb 28 d_M_days_65 (by decide) ?_
      refine nr_icmp_ge (tgt := 90) hx hb (by omega) (by omega) d_M_days_67 (by decide) (fun c_67 => by exfalso; omega) (fun c_67 => ?_)
      refine lv_aload_n hx hb d_M_days_70 rfl (lv_at hl 0 rfl) ?_
      refine va_get (D := D) (ci := 3) (v := .ref (am 7)) (C := R_M) (T := F_M) (N := 26) hx hb htb u_M hown hK hP 0 rfl rfl 11 (by decide) (htb _ q590) (fun _ h9 => h9) rfl d_M_days_71 ?_
      refine lv_iload_n hx hb d_M_days_74 rfl (lv_at hl 2 rfl) ?_
      refine nr_iconst hx hb 0 d_M_days_75 (by decide) ?_
      refine nr_iast hx hb hK hP hD hS 7 6 rfl rfl (by omega) (by decide) d_M_days_76 (fun H locs hP hD hS => ?_)
      replace hP : va_P D cls (wM am cm (up2 P1 3 i 0) (upr (up2 G 0 0 0) 1 (fun _ => 0)) (up2 X 0 0 0)) H := hP
      replace hD : va_D A (wM am cm (up2 P1 3 i 0) (upr (up2 G 0 0 0) 1 (fun _ => 0)) (up2 X 0 0 0)) := hD
      refine lv_aload_n hx hb d_M_days_77 rfl (lv_at hl 0 rfl) ?_
      refine va_get (D := D) (ci := 3) (v := .ref (am 8)) (C := R_M) (T := F_M) (N := 26) hx hb htb u_M hown hK hP 0 rfl rfl 12 (by decide) (htb _ q591) (fun _ h9 => h9) rfl d_M_days_78 ?_
      refine lv_iload_n hx hb d_M_days_81 rfl (lv_at hl 2 rfl) ?_
      refine nr_iconst hx hb 0 d_M_days_82 (by decide) ?_
      refine nr_iast hx hb hK hP hD hS 8 7 rfl rfl (by omega) (by decide) d_M_days_83 (fun H locs hP hD hS => ?_)
      replace hP : va_P D cls (wM am cm (up2 (up2 P1 3 i 0) 4 i 0) (upr (up2 G 0 0 0) 1 (fun _ => 0)) (up2 X 0 0 0)) H := hP
      replace hD : va_D A (wM am cm (up2 (up2 P1 3 i 0) 4 i 0) (upr (up2 G 0 0 0) 1 (fun _ => 0)) (up2 X 0 0 0)) := hD
      refine nr_iinc (k := 2) (lv' := [(2, .int (nI (i + 1))), (0, .ref (am 0)), (1, .int (nI d))]) hx hb d_M_days_84 hl rfl (by decide) rfl (fun ls hl => ?_)
      refine lv_goto (tgt := 64) hx hb d_M_days_87 (by decide) ?_
      exact ih_64 _ _ _ _ _ (by omega) (fun j h => ⟨by show (if j = i then 0 else P1 3 j) = 0; split; rfl; exact (hf j (by omega)).1, by show (if j = i then 0 else P1 4 j) = 0; split; rfl; exact (hf j (by omega)).2⟩) (fun r h h2 => by rw [← hrr r h h2]; funext k; simp [up2, h, h2]) (lv_sub hl [1, 2, 0] rfl) hP hD hS
  | succ k ih_43 =>
    refine lv_iload_n hx hb d_M_days_43 rfl (lv_at hl 2 rfl) ?_
    refine nr_bipush hx hb 42 d_M_days_44 (by decide) ?_
    refine nr_icmp_ge (tgt := 62) hx hb (by omega) (by omega) d_M_days_46 (by decide) (fun c_46 => by exfalso; omega) (fun c_46 => ?_)
    refine lv_aload_n hx hb d_M_days_49 rfl (lv_at hl 0 rfl) ?_
    refine va_get (D := D) (ci := 3) (v := .ref (am 3)) (C := R_M) (T := F_M) (N := 26) hx hb htb u_M hown hK hP 0 rfl rfl 6 (by decide) (htb _ q585) (fun _ h9 => h9) rfl d_M_days_50 ?_
    refine lv_iload_n hx hb d_M_days_53 rfl (lv_at hl 2 rfl) ?_
    refine nr_iconst hx hb 0 d_M_days_54 (by decide) ?_
    refine nr_iast hx hb hK hP hD hS 3 2 rfl rfl (by omega) (by decide) d_M_days_55 (fun H locs hP hD hS => ?_)
    replace hP : va_P D cls (wM am cm (up2 (up2 P 0 1 d) 0 5 0) (up2 G1 1 i 0) (up2 X 0 0 0)) H := hP
    replace hD : va_D A (wM am cm (up2 (up2 P 0 1 d) 0 5 0) (up2 G1 1 i 0) (up2 X 0 0 0)) := hD
    refine nr_iinc (k := 2) (lv' := [(2, .int (nI (i + 1))), (0, .ref (am 0)), (1, .int (nI d))]) hx hb d_M_days_56 hl rfl (by decide) rfl (fun ls hl => ?_)
    refine lv_goto (tgt := 43) hx hb d_M_days_59 (by decide) ?_
    exact ih_43 _ _ _ _ _ (by omega) (fun j h => by show (if j = i then 0 else G1 1 j) = 0; split; rfl; exact hf j (by omega)) (fun r h => by rw [← hrr r h]; funext k; simp [up2, h]) (lv_sub hl [1, 2, 0] rfl) hP hD hS

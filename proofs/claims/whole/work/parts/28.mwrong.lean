def wr2 (P : Nat → Nat → Nat) (sh : Nat → Nat) (p : Nat) : Nat → Nat → Nat
  | 0, _ => 0
  | k + 1, d => if breaks P (hadT sh p d) (sh (d * 6 + p)) = true then 100 * 2 + 10 * p + d else wr2 P sh p k (d + 1)
theorem wr2_rf (P : Nat → Nat → Nat) (sh : Nat → Nat) (p : Nat) : ∀ k d, 0 < d → wr2 P sh p k d = rf1 P sh p k d := by
  intro k
  induction k with
  | zero => intro d _; rfl
  | succ k ih => intro d hd; rw [wr2, rf1, hadT, if_neg (show ¬ d = 0 by omega), ih (d + 1) (by omega)]
theorem wr2_eq {P : Nat → Nat → Nat} {sh : Nat → Nat} {p : Nat} : wr2 P sh p (P 0 1) 0 = rf1 P sh p (P 0 1 - 1) 1 := by
  rcases Nat.eq_zero_or_pos (P 0 1) with h | h
  · rw [h]; rfl
  · conv => lhs; rw [show P 0 1 = P 0 1 - 1 + 1 by omega]
    rw [wr2, hadT, if_pos rfl, if_neg (by simp [breaks]), wr2_rf _ _ _ _ _ (by decide)]
def wr4 (P : Nat → Nat → Nat) (sh : Nat → Nat) (p : Nat) : Nat → Nat → Nat
  | 0, _ => 0
  | k + 1, d => if P 0 4 < run sh p (d + 1) then 100 * 4 + 10 * p + d else wr4 P sh p k (d + 1)
theorem wr4_gf (P : Nat → Nat → Nat) (sh : Nat → Nat) (p : Nat) : ∀ k d, wr4 P sh p k d = gf1 P sh p k d (run sh p d) := by
  intro k
  induction k with
  | zero => intro d; rfl
  | succ k ih =>
    intro d
    rw [wr4, gf1, ih (d + 1)]
    show _ = (if run sh p (d + 1) ≤ P 0 4 then gf1 P sh p k (d + 1) (run sh p (d + 1)) else _)
    by_cases h : run sh p (d + 1) ≤ P 0 4
    · rw [if_pos h, if_neg (by omega)]
    · rw [if_neg h, if_pos (by omega)]
theorem wr4_eq {P : Nat → Nat → Nat} {sh : Nat → Nat} {p : Nat} : wr4 P sh p (P 0 1) 0 = gf1 P sh p (P 0 1) 0 0 := wr4_gf P sh p (P 0 1) 0
set_option maxHeartbeats 4000000 in
set_option maxRecDepth 100000 in
theorem c_M_wrongWith (l : Launch) (D : va_G) (am : Nat → Nat) (cm : Nat → ClassId) (P G X : Nat → Nat → Nat) (a : Nat) (cS : ClassId) (sh : Nat → Nat) (hP0 : okP P) (hG0 : okG G) (hX0 : okX X) (hsh : ∀ k, sh k ≤ 3) (hb0 : ∀ c, P 5 (c * 4) = 0) : Met l y_M_wrongWith w_M_wrongWith { frames := 2, cells := 0, slots := 0, locals := 46 } (ro_P [.ref (am 0), .ref a] D (wMS am cm P G X a cS sh) (tMS cm cS)) (vp_Si (fun r => r = nI (firstFault P sh))) 0 0 (fun _ => False) := by
  refine Met.ofW (cc := b_M_wrongWith) (maxL := 8) (ret := (some .int)) (by decide) rfl ?_
  intro p e s m args below meth c s₁ B hml hv
  obtain ⟨rfl, hN, hP, hK⟩ := hv
  have hx := B.exec
  have hb := B.bytes
  have hr := B.returns
  have hts := atoms_spec (ws := w_M_wrongWith) B.pre
  have htb : ∀ w ∈ TBG, w.before [.ref (am 0), .ref a].toArray s = true := fun w h => hts w (List.mem_cons_of_mem _ h)
  have hown : s.vm.findClass R_M = some m.cls := findClass_of_methodNamed B.named
  have hlocks := B.notSynchronized
  have hl := lv_entry ([.ref (am 0), .ref a]) (n := 8) (Nat.le_of_ble_eq_true rfl)
  rw [lg_entry_eq]
  generalize (lg_sl ([.ref (am 0), .ref a]) ++ List.replicate (8 - (lg_sl ([.ref (am 0), .ref a])).length) Slot.unset).toArray = ls at hl ⊢
  have hl : lv_has ls 8 [(0, .ref (am 0)), (1, .ref a)] := hl
  obtain ⟨h00, h01, h02, h03, h04, h05, hp1, hp2, hp3, hp4, hp5, hp6⟩ := id hP0
  obtain ⟨k00, k01, hg1, hg2⟩ := id hG0
  obtain ⟨x00, x01, x02, x03, hx1, hx2, hx3, hx4, hx5, hx6, hx7⟩ := id hX0
  refine nr_iconst hx hb 0 d_M_wrongWith_0 (by decide) ?_
  refine lv_istore_n (lv' := [(2, .int (nI 0)), (0, .ref (am 0)), (1, .ref a)]) hx hb d_M_wrongWith_1 rfl hl (by decide) rfl (fun ls hl => ?_)
  replace hl : ∃ k d : Nat, (d + k = P 0 1) ∧ (nf P sh k d = needFault P sh) ∧ lv_has ls 8 [(0, .ref (am 0)), (1, .ref a), (2, .int (nI d))] := ⟨P 0 1, 0, Nat.zero_add _, rfl, lv_sub hl [1, 2, 0] rfl⟩
  obtain ⟨k, d, hk, hres, hl⟩ := hl
  induction k generalizing d ls with
  | zero =>
    refine lv_iload_n hx hb d_M_wrongWith_2 rfl (lv_at hl 2 rfl) ?_
    refine lv_aload_n hx hb d_M_wrongWith_3 rfl (lv_at hl 0 rfl) ?_
    refine va_get (D := D) (ci := 3) (v := .int (nI (P 0 1))) (C := R_M) (T := F_M) (N := 26) hx hb htb u_M hown hK hP 0 rfl rfl 2 (by decide) (htb _ q581) (fun _ h9 => h9) rfl d_M_wrongWith_4 ?_
    refine nr_icmp_ge (tgt := 49) hx hb (by omega) (by omega) d_M_wrongWith_7 (by decide) (fun c_7 => ?_) (fun c_7 => by exfalso; omega)
    have z1 : needFault P sh = 0 := by rw [← hres, nf]
    refine nr_iconst hx hb 2 d_M_wrongWith_49 (by decide) ?_
    refine lv_istore_n (lv' := [(2, .int (nI 2)), (0, .ref (am 0)), (1, .ref a)]) hx hb d_M_wrongWith_50 rfl hl (by decide) rfl (fun ls hl => ?_)
    refine lv_iload_n hx hb d_M_wrongWith_51 rfl (lv_at hl 0 rfl) ?_
    refine nr_bipush hx hb 6 d_M_wrongWith_52 (by decide) ?_
    refine nr_icmp_ge (tgt := 265) hx hb (by omega) (by omega) d_M_wrongWith_54 (by decide) (fun c_54 => by exfalso; omega) (fun c_54 => ?_)
    refine nr_iconst hx hb 0 d_M_wrongWith_57 (by decide) ?_
    refine lv_istore_n (lv' := [(3, .int (nI 0)), (2, .int (nI 2)), (0, .ref (am 0)), (1, .ref a)]) hx hb d_M_wrongWith_58 rfl hl (by decide) rfl (fun ls hl => ?_)
    replace hl : ∃ k p1 : Nat, (p1 + k = P 0 0) ∧ (rf P sh k p1 = restFault P sh) ∧ lv_has ls 8 [(0, .ref (am 0)), (1, .ref a), (2, .int (nI 2)), (3, .int (nI p1))] := ⟨P 0 0, 0, Nat.zero_add _, rfl, lv_sub hl [2, 3, 1, 0] rfl⟩
    obtain ⟨k, p1, hk, hres, hl⟩ := hl
    induction k generalizing p1 ls with
    | zero =>
      refine lv_iload_n hx hb d_M_wrongWith_59 rfl (lv_at hl 3 rfl) ?_
      refine lv_aload_n hx hb d_M_wrongWith_60 rfl (lv_at hl 0 rfl) ?_
      refine va_get (D := D) (ci := 3) (v := .int (nI (P 0 0))) (C := R_M) (T := F_M) (N := 26) hx hb htb u_M hown hK hP 0 rfl rfl 1 (by decide) (htb _ q580) (fun _ h9 => h9) rfl d_M_wrongWith_61 ?_
      refine nr_icmp_ge (tgt := 259) hx hb (by omega) (by omega) d_M_wrongWith_64 (by decide) (fun c_64 => ?_) (fun c_64 => by exfalso; omega)
      have z2 : restFault P sh = 0 := by rw [← hres, rf]
      refine nr_iinc (k := 2) (lv' := [(2, .int (nI 3)), (0, .ref (am 0)), (1, .ref a), (3, .int (nI p1))]) hx hb d_M_wrongWith_259 hl rfl (by decide) rfl (fun ls hl => ?_)
      refine lv_goto (tgt := 51) hx hb d_M_wrongWith_262 (by decide) ?_
      refine lv_iload_n hx hb d_M_wrongWith_51 rfl (lv_at hl 0 rfl) ?_
      refine nr_bipush hx hb 6 d_M_wrongWith_52 (by decide) ?_
      refine nr_icmp_ge (tgt := 265) hx hb (by omega) (by omega) d_M_wrongWith_54 (by decide) (fun c_54 => by exfalso; omega) (fun c_54 => ?_)
      refine nr_iconst hx hb 0 d_M_wrongWith_57 (by decide) ?_
      refine lv_istore_n (lv' := [(3, .int (nI 0)), (2, .int (nI 3)), (0, .ref (am 0)), (1, .ref a)]) hx hb d_M_wrongWith_58 rfl hl (by decide) rfl (fun ls hl => ?_)
      replace hl : ∃ k p1 : Nat, (p1 + k = P 0 0) ∧ (mf P sh k p1 = mostFault P sh) ∧ lv_has ls 8 [(0, .ref (am 0)), (1, .ref a), (2, .int (nI 3)), (3, .int (nI p1))] := ⟨P 0 0, 0, Nat.zero_add _, rfl, lv_sub hl [2, 3, 1, 0] rfl⟩
      obtain ⟨k, p1, hk, hres, hl⟩ := hl
      induction k generalizing p1 ls with
      | zero =>
        refine lv_iload_n hx hb d_M_wrongWith_59 rfl (lv_at hl 3 rfl) ?_
        refine lv_aload_n hx hb d_M_wrongWith_60 rfl (lv_at hl 0 rfl) ?_
        refine va_get (D := D) (ci := 3) (v := .int (nI (P 0 0))) (C := R_M) (T := F_M) (N := 26) hx hb htb u_M hown hK hP 0 rfl rfl 1 (by decide) (htb _ q580) (fun _ h9 => h9) rfl d_M_wrongWith_61 ?_
        refine nr_icmp_ge (tgt := 259) hx hb (by omega) (by omega) d_M_wrongWith_64 (by decide) (fun c_64 => ?_) (fun c_64 => by exfalso; omega)
        have z3 : mostFault P sh = 0 := by rw [← hres, mf]
        refine nr_iinc (k := 2) (lv' := [(2, .int (nI 4)), (0, .ref (am 0)), (1, .ref a), (3, .int (nI p1))]) hx hb d_M_wrongWith_259 hl rfl (by decide) rfl (fun ls hl => ?_)
        refine lv_goto (tgt := 51) hx hb d_M_wrongWith_262 (by decide) ?_
        refine lv_iload_n hx hb d_M_wrongWith_51 rfl (lv_at hl 0 rfl) ?_
        refine nr_bipush hx hb 6 d_M_wrongWith_52 (by decide) ?_
        refine nr_icmp_ge (tgt := 265) hx hb (by omega) (by omega) d_M_wrongWith_54 (by decide) (fun c_54 => by exfalso; omega) (fun c_54 => ?_)
        refine nr_iconst hx hb 0 d_M_wrongWith_57 (by decide) ?_
        refine lv_istore_n (lv' := [(3, .int (nI 0)), (2, .int (nI 4)), (0, .ref (am 0)), (1, .ref a)]) hx hb d_M_wrongWith_58 rfl hl (by decide) rfl (fun ls hl => ?_)
        replace hl : ∃ k p1 : Nat, (p1 + k = P 0 0) ∧ (gf P sh k p1 = nightsFault P sh) ∧ lv_has ls 8 [(0, .ref (am 0)), (1, .ref a), (2, .int (nI 4)), (3, .int (nI p1))] := ⟨P 0 0, 0, Nat.zero_add _, rfl, lv_sub hl [2, 3, 1, 0] rfl⟩
        obtain ⟨k, p1, hk, hres, hl⟩ := hl
        induction k generalizing p1 ls with
        | zero =>
          refine lv_iload_n hx hb d_M_wrongWith_59 rfl (lv_at hl 3 rfl) ?_
          refine lv_aload_n hx hb d_M_wrongWith_60 rfl (lv_at hl 0 rfl) ?_
          refine va_get (D := D) (ci := 3) (v := .int (nI (P 0 0))) (C := R_M) (T := F_M) (N := 26) hx hb htb u_M hown hK hP 0 rfl rfl 1 (by decide) (htb _ q580) (fun _ h9 => h9) rfl d_M_wrongWith_61 ?_
          refine nr_icmp_ge (tgt := 259) hx hb (by omega) (by omega) d_M_wrongWith_64 (by decide) (fun c_64 => ?_) (fun c_64 => by exfalso; omega)
          have z4 : nightsFault P sh = 0 := by rw [← hres, gf]
          refine nr_iinc (k := 2) (lv' := [(2, .int (nI 5)), (0, .ref (am 0)), (1, .ref a), (3, .int (nI p1))]) hx hb d_M_wrongWith_259 hl rfl (by decide) rfl (fun ls hl => ?_)
          refine lv_goto (tgt := 51) hx hb d_M_wrongWith_262 (by decide) ?_
          refine lv_iload_n hx hb d_M_wrongWith_51 rfl (lv_at hl 0 rfl) ?_
          refine nr_bipush hx hb 6 d_M_wrongWith_52 (by decide) ?_
          refine nr_icmp_ge (tgt := 265) hx hb (by omega) (by omega) d_M_wrongWith_54 (by decide) (fun c_54 => by exfalso; omega) (fun c_54 => ?_)
          refine nr_iconst hx hb 0 d_M_wrongWith_57 (by decide) ?_
          refine lv_istore_n (lv' := [(3, .int (nI 0)), (2, .int (nI 5)), (0, .ref (am 0)), (1, .ref a)]) hx hb d_M_wrongWith_58 rfl hl (by decide) rfl (fun ls hl => ?_)
          replace hl : ∃ k p1 : Nat, (p1 + k = P 0 0) ∧ (bf P sh k p1 = barFault P sh) ∧ lv_has ls 8 [(0, .ref (am 0)), (1, .ref a), (2, .int (nI 5)), (3, .int (nI p1))] := ⟨P 0 0, 0, Nat.zero_add _, rfl, lv_sub hl [2, 3, 1, 0] rfl⟩
          obtain ⟨k, p1, hk, hres, hl⟩ := hl
          induction k generalizing p1 ls with
          | zero =>
            refine lv_iload_n hx hb d_M_wrongWith_59 rfl (lv_at hl 3 rfl) ?_
            refine lv_aload_n hx hb d_M_wrongWith_60 rfl (lv_at hl 0 rfl) ?_
            refine va_get (D := D) (ci := 3) (v := .int (nI (P 0 0))) (C := R_M) (T := F_M) (N := 26) hx hb htb u_M hown hK hP 0 rfl rfl 1 (by decide) (htb _ q580) (fun _ h9 => h9) rfl d_M_wrongWith_61 ?_
            refine nr_icmp_ge (tgt := 259) hx hb (by omega) (by omega) d_M_wrongWith_64 (by decide) (fun c_64 => ?_) (fun c_64 => by exfalso; omega)
            have z5 : barFault P sh = 0 := by rw [← hres, bf]
            refine nr_iinc (k := 2) (lv' := [(2, .int (nI 6)), (0, .ref (am 0)), (1, .ref a), (3, .int (nI p1))]) hx hb d_M_wrongWith_259 hl rfl (by decide) rfl (fun ls hl => ?_)
            refine lv_goto (tgt := 51) hx hb d_M_wrongWith_262 (by decide) ?_
            refine lv_iload_n hx hb d_M_wrongWith_51 rfl (lv_at hl 0 rfl) ?_
            refine nr_bipush hx hb 6 d_M_wrongWith_52 (by decide) ?_
            refine nr_icmp_ge (tgt := 265) hx hb (by omega) (by omega) d_M_wrongWith_54 (by decide) (fun c_54 => ?_) (fun c_54 => by exfalso; omega)
            refine nr_iconst hx hb 0 d_M_wrongWith_265 (by decide) ?_
            exact W.iret (v := (nI 0)) hx hb hr (fun t ht hW => ⟨_, rfl, by unfold firstFault; rw [if_neg (fun h => h z1), if_neg (fun h => h z2), if_neg (fun h => h z3), if_neg (fun h => h z4), z5], ht⟩) (fun q h => by cases h) d_M_wrongWith_266
          | succ k ih_59 =>
            refine lv_iload_n hx hb d_M_wrongWith_59 rfl (lv_at hl 3 rfl) ?_
            refine lv_aload_n hx hb d_M_wrongWith_60 rfl (lv_at hl 0 rfl) ?_
            refine va_get (D := D) (ci := 3) (v := .int (nI (P 0 0))) (C := R_M) (T := F_M) (N := 26) hx hb htb u_M hown hK hP 0 rfl rfl 1 (by decide) (htb _ q580) (fun _ h9 => h9) rfl d_M_wrongWith_61 ?_
            refine nr_icmp_ge (tgt := 259) hx hb (by omega) (by omega) d_M_wrongWith_64 (by decide) (fun c_64 => by exfalso; omega) (fun c_64 => ?_)
            refine nr_iconst hx hb 0 d_M_wrongWith_67 (by decide) ?_
            refine lv_istore (lv' := [(4, .int (nI 0)), (0, .ref (am 0)), (1, .ref a), (2, .int (nI 5)), (3, .int (nI p1))]) hx hb d_M_wrongWith_68 hl (by decide) rfl (fun ls hl => ?_)
            refine nr_iconst hx hb 0 d_M_wrongWith_70 (by decide) ?_
            refine lv_istore (lv' := [(5, .int (nI 0)), (4, .int (nI 0)), (0, .ref (am 0)), (1, .ref a), (2, .int (nI 5)), (3, .int (nI p1))]) hx hb d_M_wrongWith_71 hl (by decide) rfl (fun ls hl => ?_)
            replace hl : ∃ k2 d last : Nat, (d + k2 = P 0 1) ∧ ((if bf1 P sh p1 k2 d = 0 then bf P sh k (p1 + 1) else bf1 P sh p1 k2 d) = barFault P sh) ∧ lv_has ls 8 [(0, .ref (am 0)), (1, .ref a), (2, .int (nI 5)), (3, .int (nI p1)), (4, .int (nI last)), (5, .int (nI d))] := ⟨P 0 1, 0, 0, Nat.zero_add _, (by rw [← hres, bf]), lv_sub hl [2, 3, 4, 5, 1, 0] rfl⟩
            obtain ⟨k2, d, last, hkd, hin, hl⟩ := hl
            induction k2 generalizing d last ls with
            | zero =>
              refine lv_iload hx hb d_M_wrongWith_73 (lv_at hl 5 rfl) ?_
              refine lv_aload_n hx hb d_M_wrongWith_75 rfl (lv_at hl 0 rfl) ?_
              refine va_get (D := D) (ci := 3) (v := .int (nI (P 0 1))) (C := R_M) (T := F_M) (N := 26) hx hb htb u_M hown hK hP 0 rfl rfl 2 (by decide) (htb _ q581) (fun _ h9 => h9) rfl d_M_wrongWith_76 ?_
              refine nr_icmp_ge (tgt := 211) hx hb (by omega) (by omega) d_M_wrongWith_79 (by decide) (fun c_79 => ?_) (fun c_79 => by exfalso; omega)
              refine lv_iload_n hx hb d_M_wrongWith_211 rfl (lv_at hl 2 rfl) ?_
              refine nr_iconst hx hb 3 d_M_wrongWith_212 (by decide) ?_
              refine nr_icmp_ne (tgt := 253) hx hb (by omega) (by omega) d_M_wrongWith_213 (by decide) (fun c_213 => ?_) (fun c_213 => by exfalso; omega)
              refine nr_iinc (k := 3) (lv' := [(3, .int (nI (p1 + 1))), (0, .ref (am 0)), (1, .ref a), (2, .int (nI 5)), (4, .int (nI last)), (5, .int (nI d))]) hx hb d_M_wrongWith_253 hl rfl (by decide) rfl (fun ls hl => ?_)
              refine lv_goto (tgt := 59) hx hb d_M_wrongWith_256 (by decide) ?_
              exact ih_59 _ _ (by omega) (by rw [bf1, if_pos rfl] at hin; exact hin) (lv_sub hl [1, 2, 3, 0] rfl)
            | succ k2 ih_73 =>
              refine lv_iload hx hb d_M_wrongWith_73 (lv_at hl 5 rfl) ?_
              refine lv_aload_n hx hb d_M_wrongWith_75 rfl (lv_at hl 0 rfl) ?_
              refine va_get (D := D) (ci := 3) (v := .int (nI (P 0 1))) (C := R_M) (T := F_M) (N := 26) hx hb htb u_M hown hK hP 0 rfl rfl 2 (by decide) (htb _ q581) (fun _ h9 => h9) rfl d_M_wrongWith_76 ?_
              refine nr_icmp_ge (tgt := 211) hx hb (by omega) (by omega) d_M_wrongWith_79 (by decide) (fun c_79 => by exfalso; omega) (fun c_79 => ?_)
              refine lv_aload_n hx hb d_M_wrongWith_82 rfl (lv_at hl 1 rfl) ?_
              refine nr_bipush hx hb 6 d_M_wrongWith_83 (by decide) ?_
              refine lv_iload hx hb d_M_wrongWith_85 (lv_at hl 5 rfl) ?_
              refine nr_imul hx hb d_M_wrongWith_87 ?_
              refine nr_top (y := nI (d * 6)) (congrArg nI (Nat.mul_comm _ _)) ?_
              refine lv_iload_n hx hb d_M_wrongWith_88 rfl (lv_at hl 3 rfl) ?_
              refine nr_iadd hx hb d_M_wrongWith_89 ?_
              refine nr_iald hx hb hK hP 15 14 rfl rfl (by omega) (by decide) d_M_wrongWith_90 ?_
              have hv_1 := hsh ((d * 6) + p1)
              refine lv_istore (lv' := [(6, .int (nI (sh ((d * 6) + p1)))), (0, .ref (am 0)), (1, .ref a), (2, .int (nI 5)), (3, .int (nI p1)), (4, .int (nI last)), (5, .int (nI d))]) hx hb d_M_wrongWith_91 hl (by decide) rfl (fun ls hl => ?_)
              refine lv_iload hx hb d_M_wrongWith_93 (lv_at hl 0 rfl) ?_
              refine nr_if_le (tgt := 103) hx hb (by omega) d_M_wrongWith_95 (by decide) (fun c_95 => ?_) (fun c_95 => ?_)
              · refine lv_iload hx hb d_M_wrongWith_103 (lv_at hl 5 rfl) ?_
                refine lv_istore (lv' := [(4, .int (nI last)), (6, .int (nI (sh ((d * 6) + p1)))), (0, .ref (am 0)), (1, .ref a), (2, .int (nI 5)), (3, .int (nI p1)), (5, .int (nI d))]) hx hb d_M_wrongWith_105 hl (by decide) rfl (fun ls hl => ?_)
                refine lv_iload_n hx hb d_M_wrongWith_107 rfl (lv_at hl 4 rfl) ?_
                refine nr_iconst hx hb 2 d_M_wrongWith_108 (by decide) ?_
                refine nr_icmp_ne (tgt := 123) hx hb (by omega) (by omega) d_M_wrongWith_109 (by decide) (fun c_109 => ?_) (fun c_109 => by exfalso; omega)
                refine lv_iload_n hx hb d_M_wrongWith_123 rfl (lv_at hl 4 rfl) ?_
                refine nr_iconst hx hb 4 d_M_wrongWith_124 (by decide) ?_
                refine nr_icmp_ne (tgt := 150) hx hb (by omega) (by omega) d_M_wrongWith_125 (by decide) (fun c_125 => ?_) (fun c_125 => by exfalso; omega)
                refine lv_iload_n hx hb d_M_wrongWith_150 rfl (lv_at hl 4 rfl) ?_
                refine nr_iconst hx hb 5 d_M_wrongWith_151 (by decide) ?_
                refine nr_icmp_ne (tgt := 184) hx hb (by omega) (by omega) d_M_wrongWith_152 (by decide) (fun c_152 => by exfalso; omega) (fun c_152 => ?_)
                refine lv_iload hx hb d_M_wrongWith_155 (lv_at hl 1 rfl) ?_
                refine nr_if_le (tgt := 184) hx hb (by omega) d_M_wrongWith_157 (by decide) (fun c_157 => ?_) (fun c_157 => ?_)
                · refine nr_iconst hx hb 0 d_M_wrongWith_184 (by decide) ?_
                  refine lv_istore (lv' := [(7, .int (nI 0)), (4, .int (nI last)), (6, .int (nI (sh ((d * 6) + p1)))), (0, .ref (am 0)), (1, .ref a), (2, .int (nI 5)), (3, .int (nI p1)), (5, .int (nI d))]) hx hb d_M_wrongWith_185 hl (by decide) rfl (fun ls hl => ?_)
                  refine lv_iload hx hb d_M_wrongWith_187 (lv_at hl 0 rfl) ?_
                  refine nr_if_eq (tgt := 205) hx hb (by omega) d_M_wrongWith_189 (by decide) (fun c_189 => ?_) (fun c_189 => by exfalso; omega)
                  refine nr_iinc (k := 7) (lv' := [(5, .int (nI (d + 1))), (7, .int (nI 0)), (4, .int (nI last)), (6, .int (nI (sh ((d * 6) + p1)))), (0, .ref (am 0)), (1, .ref a), (2, .int (nI 5)), (3, .int (nI p1))]) hx hb d_M_wrongWith_205 hl rfl (by decide) rfl (fun ls hl => ?_)
                  refine lv_goto (tgt := 73) hx hb d_M_wrongWith_208 (by decide) ?_
                  exact ih_73 _ _ _ (by omega) (by rw [bf1, if_pos (show P 5 ((d * 6 + p1) * 4 + sh (d * 6 + p1)) = 0 by rw [c_157]; exact hb0 _)] at hin; exact hin) (lv_sub hl [4, 5, 6, 7, 2, 0] rfl)
                · refine lv_aload_n hx hb d_M_wrongWith_160 rfl (lv_at hl 2 rfl) ?_
                  refine va_get (D := D) (ci := 3) (v := .ref (am 9)) (C := R_M) (T := F_M) (N := 26) hx hb htb u_M hown hK hP 0 rfl rfl 13 (by decide) (htb _ q592) (fun _ h9 => h9) rfl d_M_wrongWith_161 ?_
                  refine nr_bipush hx hb 24 d_M_wrongWith_164 (by decide) ?_
                  refine lv_iload hx hb d_M_wrongWith_166 (lv_at hl 6 rfl) ?_
                  refine nr_imul hx hb d_M_wrongWith_168 ?_
                  refine nr_top (y := nI (d * 24)) (congrArg nI (Nat.mul_comm _ _)) ?_
                  refine nr_iconst hx hb 4 d_M_wrongWith_169 (by decide) ?_
                  refine lv_iload_n hx hb d_M_wrongWith_170 rfl (lv_at hl 5 rfl) ?_
                  refine nr_imul hx hb d_M_wrongWith_171 ?_
                  refine nr_top (y := nI (p1 * 4)) (congrArg nI (Nat.mul_comm _ _)) ?_
                  refine nr_iadd hx hb d_M_wrongWith_172 ?_
                  refine lv_iload hx hb d_M_wrongWith_173 (lv_at hl 1 rfl) ?_
                  refine nr_iadd hx hb d_M_wrongWith_175 ?_
                  refine nr_top (y := nI ((d * 6 + p1) * 4 + sh (d * 6 + p1))) (congrArg nI (by omega)) ?_
                  refine nr_zald hx hb hK hP 9 8 rfl rfl (by omega) (by decide) d_M_wrongWith_176 ?_
                  have hv_2 := hp5 ((d * 6 + p1) * 4 + sh (d * 6 + p1))
                  refine nr_if_eq (tgt := 184) hx hb (by omega) d_M_wrongWith_177 (by decide) (fun c_177 => ?_) (fun c_177 => ?_)
                  · refine nr_iconst hx hb 0 d_M_wrongWith_184 (by decide) ?_
                    refine lv_istore (lv' := [(7, .int (nI 0)), (4, .int (nI last)), (6, .int (nI (sh ((d * 6) + p1)))), (0, .ref (am 0)), (1, .ref a), (2, .int (nI 5)), (3, .int (nI p1)), (5, .int (nI d))]) hx hb d_M_wrongWith_185 hl (by decide) rfl (fun ls hl => ?_)
                    refine lv_iload hx hb d_M_wrongWith_187 (lv_at hl 0 rfl) ?_
                    refine nr_if_eq (tgt := 205) hx hb (by omega) d_M_wrongWith_189 (by decide) (fun c_189 => ?_) (fun c_189 => by exfalso; omega)
                    refine nr_iinc (k := 7) (lv' := [(5, .int (nI (d + 1))), (7, .int (nI 0)), (4, .int (nI last)), (6, .int (nI (sh ((d * 6) + p1)))), (0, .ref (am 0)), (1, .ref a), (2, .int (nI 5)), (3, .int (nI p1))]) hx hb d_M_wrongWith_205 hl rfl (by decide) rfl (fun ls hl => ?_)
                    refine lv_goto (tgt := 73) hx hb d_M_wrongWith_208 (by decide) ?_
                    exact ih_73 _ _ _ (by omega) (by rw [bf1, if_pos c_177] at hin; exact hin) (lv_sub hl [4, 5, 6, 7, 2, 0] rfl)
                  · refine nr_iconst hx hb 1 d_M_wrongWith_180 (by decide) ?_
                    refine lv_goto (tgt := 185) hx hb d_M_wrongWith_181 (by decide) ?_
                    refine lv_istore (lv' := [(7, .int (nI 1)), (4, .int (nI last)), (6, .int (nI (sh ((d * 6) + p1)))), (0, .ref (am 0)), (1, .ref a), (2, .int (nI 5)), (3, .int (nI p1)), (5, .int (nI d))]) hx hb d_M_wrongWith_185 hl (by decide) rfl (fun ls hl => ?_)
                    refine lv_iload hx hb d_M_wrongWith_187 (lv_at hl 0 rfl) ?_
                    refine nr_if_eq (tgt := 205) hx hb (by omega) d_M_wrongWith_189 (by decide) (fun c_189 => by exfalso; omega) (fun c_189 => ?_)
                    refine nr_bipush hx hb 100 d_M_wrongWith_192 (by decide) ?_
                    refine lv_iload_n hx hb d_M_wrongWith_194 rfl (lv_at hl 5 rfl) ?_
                    refine nr_imul hx hb d_M_wrongWith_195 ?_
                    refine nr_bipush hx hb 10 d_M_wrongWith_196 (by decide) ?_
                    refine lv_iload_n hx hb d_M_wrongWith_198 rfl (lv_at hl 6 rfl) ?_
                    refine nr_imul hx hb d_M_wrongWith_199 ?_
                    refine nr_top (y := nI (p1 * 10)) (congrArg nI (Nat.mul_comm _ _)) ?_
                    refine nr_iadd hx hb d_M_wrongWith_200 ?_
                    refine lv_iload hx hb d_M_wrongWith_201 (lv_at hl 7 rfl) ?_
                    refine nr_iadd hx hb d_M_wrongWith_203 ?_
                    exact W.iret (v := (nI (((100 * 5) + (p1 * 10)) + d))) hx hb hr (fun t ht hW => ⟨_, rfl, congrArg nI (by rw [bf1, if_neg c_177] at hin; rw [if_neg (show ¬ 100 * 5 + 10 * p1 + d = 0 by omega)] at hin; unfold firstFault; rw [if_neg (fun h => h z1), if_neg (fun h => h z2), if_neg (fun h => h z3), if_neg (fun h => h z4)]; omega), ht⟩) (fun q h => by cases h) d_M_wrongWith_204
              · refine lv_iload hx hb d_M_wrongWith_98 (lv_at hl 6 rfl) ?_
                refine lv_goto (tgt := 105) hx hb d_M_wrongWith_100 (by decide) ?_
                refine lv_istore (lv' := [(4, .int (nI d)), (6, .int (nI (sh ((d * 6) + p1)))), (0, .ref (am 0)), (1, .ref a), (2, .int (nI 5)), (3, .int (nI p1)), (5, .int (nI d))]) hx hb d_M_wrongWith_105 hl (by decide) rfl (fun ls hl => ?_)
                refine lv_iload_n hx hb d_M_wrongWith_107 rfl (lv_at hl 4 rfl) ?_
                refine nr_iconst hx hb 2 d_M_wrongWith_108 (by decide) ?_
                refine nr_icmp_ne (tgt := 123) hx hb (by omega) (by omega) d_M_wrongWith_109 (by decide) (fun c_109 => ?_) (fun c_109 => by exfalso; omega)
                refine lv_iload_n hx hb d_M_wrongWith_123 rfl (lv_at hl 4 rfl) ?_
                refine nr_iconst hx hb 4 d_M_wrongWith_124 (by decide) ?_
                refine nr_icmp_ne (tgt := 150) hx hb (by omega) (by omega) d_M_wrongWith_125 (by decide) (fun c_125 => ?_) (fun c_125 => by exfalso; omega)
                refine lv_iload_n hx hb d_M_wrongWith_150 rfl (lv_at hl 4 rfl) ?_
                refine nr_iconst hx hb 5 d_M_wrongWith_151 (by decide) ?_
                refine nr_icmp_ne (tgt := 184) hx hb (by omega) (by omega) d_M_wrongWith_152 (by decide) (fun c_152 => by exfalso; omega) (fun c_152 => ?_)
                refine lv_iload hx hb d_M_wrongWith_155 (lv_at hl 1 rfl) ?_
                refine nr_if_le (tgt := 184) hx hb (by omega) d_M_wrongWith_157 (by decide) (fun c_157 => ?_) (fun c_157 => ?_)
                · refine nr_iconst hx hb 0 d_M_wrongWith_184 (by decide) ?_
                  refine lv_istore (lv' := [(7, .int (nI 0)), (4, .int (nI d)), (6, .int (nI (sh ((d * 6) + p1)))), (0, .ref (am 0)), (1, .ref a), (2, .int (nI 5)), (3, .int (nI p1)), (5, .int (nI d))]) hx hb d_M_wrongWith_185 hl (by decide) rfl (fun ls hl => ?_)
                  refine lv_iload hx hb d_M_wrongWith_187 (lv_at hl 0 rfl) ?_
                  refine nr_if_eq (tgt := 205) hx hb (by omega) d_M_wrongWith_189 (by decide) (fun c_189 => ?_) (fun c_189 => by exfalso; omega)
                  refine nr_iinc (k := 7) (lv' := [(5, .int (nI (d + 1))), (7, .int (nI 0)), (4, .int (nI d)), (6, .int (nI (sh ((d * 6) + p1)))), (0, .ref (am 0)), (1, .ref a), (2, .int (nI 5)), (3, .int (nI p1))]) hx hb d_M_wrongWith_205 hl rfl (by decide) rfl (fun ls hl => ?_)
                  refine lv_goto (tgt := 73) hx hb d_M_wrongWith_208 (by decide) ?_
                  exact ih_73 _ _ _ (by omega) (by rw [bf1, if_pos (show P 5 ((d * 6 + p1) * 4 + sh (d * 6 + p1)) = 0 by rw [c_157]; exact hb0 _)] at hin; exact hin) (lv_sub hl [4, 5, 6, 7, 2, 0] rfl)
                · refine lv_aload_n hx hb d_M_wrongWith_160 rfl (lv_at hl 2 rfl) ?_
                  refine va_get (D := D) (ci := 3) (v := .ref (am 9)) (C := R_M) (T := F_M) (N := 26) hx hb htb u_M hown hK hP 0 rfl rfl 13 (by decide) (htb _ q592) (fun _ h9 => h9) rfl d_M_wrongWith_161 ?_
                  refine nr_bipush hx hb 24 d_M_wrongWith_164 (by decide) ?_
                  refine lv_iload hx hb d_M_wrongWith_166 (lv_at hl 6 rfl) ?_
                  refine nr_imul hx hb d_M_wrongWith_168 ?_
                  refine nr_top (y := nI (d * 24)) (congrArg nI (Nat.mul_comm _ _)) ?_
                  refine nr_iconst hx hb 4 d_M_wrongWith_169 (by decide) ?_
                  refine lv_iload_n hx hb d_M_wrongWith_170 rfl (lv_at hl 5 rfl) ?_
                  refine nr_imul hx hb d_M_wrongWith_171 ?_
                  refine nr_top (y := nI (p1 * 4)) (congrArg nI (Nat.mul_comm _ _)) ?_
                  refine nr_iadd hx hb d_M_wrongWith_172 ?_
                  refine lv_iload hx hb d_M_wrongWith_173 (lv_at hl 1 rfl) ?_
                  refine nr_iadd hx hb d_M_wrongWith_175 ?_
                  refine nr_top (y := nI ((d * 6 + p1) * 4 + sh (d * 6 + p1))) (congrArg nI (by omega)) ?_
                  refine nr_zald hx hb hK hP 9 8 rfl rfl (by omega) (by decide) d_M_wrongWith_176 ?_
                  have hv_3 := hp5 ((d * 6 + p1) * 4 + sh (d * 6 + p1))
                  refine nr_if_eq (tgt := 184) hx hb (by omega) d_M_wrongWith_177 (by decide) (fun c_177 => ?_) (fun c_177 => ?_)
                  · refine nr_iconst hx hb 0 d_M_wrongWith_184 (by decide) ?_
                    refine lv_istore (lv' := [(7, .int (nI 0)), (4, .int (nI d)), (6, .int (nI (sh ((d * 6) + p1)))), (0, .ref (am 0)), (1, .ref a), (2, .int (nI 5)), (3, .int (nI p1)), (5, .int (nI d))]) hx hb d_M_wrongWith_185 hl (by decide) rfl (fun ls hl => ?_)
                    refine lv_iload hx hb d_M_wrongWith_187 (lv_at hl 0 rfl) ?_
                    refine nr_if_eq (tgt := 205) hx hb (by omega) d_M_wrongWith_189 (by decide) (fun c_189 => ?_) (fun c_189 => by exfalso; omega)
                    refine nr_iinc (k := 7) (lv' := [(5, .int (nI (d + 1))), (7, .int (nI 0)), (4, .int (nI d)), (6, .int (nI (sh ((d * 6) + p1)))), (0, .ref (am 0)), (1, .ref a), (2, .int (nI 5)), (3, .int (nI p1))]) hx hb d_M_wrongWith_205 hl rfl (by decide) rfl (fun ls hl => ?_)
                    refine lv_goto (tgt := 73) hx hb d_M_wrongWith_208 (by decide) ?_
                    exact ih_73 _ _ _ (by omega) (by rw [bf1, if_pos c_177] at hin; exact hin) (lv_sub hl [4, 5, 6, 7, 2, 0] rfl)
                  · refine nr_iconst hx hb 1 d_M_wrongWith_180 (by decide) ?_
                    refine lv_goto (tgt := 185) hx hb d_M_wrongWith_181 (by decide) ?_
                    refine lv_istore (lv' := [(7, .int (nI 1)), (4, .int (nI d)), (6, .int (nI (sh ((d * 6) + p1)))), (0, .ref (am 0)), (1, .ref a), (2, .int (nI 5)), (3, .int (nI p1)), (5, .int (nI d))]) hx hb d_M_wrongWith_185 hl (by decide) rfl (fun ls hl => ?_)
                    refine lv_iload hx hb d_M_wrongWith_187 (lv_at hl 0 rfl) ?_
                    refine nr_if_eq (tgt := 205) hx hb (by omega) d_M_wrongWith_189 (by decide) (fun c_189 => by exfalso; omega) (fun c_189 => ?_)
                    refine nr_bipush hx hb 100 d_M_wrongWith_192 (by decide) ?_
                    refine lv_iload_n hx hb d_M_wrongWith_194 rfl (lv_at hl 5 rfl) ?_
                    refine nr_imul hx hb d_M_wrongWith_195 ?_
                    refine nr_bipush hx hb 10 d_M_wrongWith_196 (by decide) ?_
                    refine lv_iload_n hx hb d_M_wrongWith_198 rfl (lv_at hl 6 rfl) ?_
                    refine nr_imul hx hb d_M_wrongWith_199 ?_
                    refine nr_top (y := nI (p1 * 10)) (congrArg nI (Nat.mul_comm _ _)) ?_
                    refine nr_iadd hx hb d_M_wrongWith_200 ?_
                    refine lv_iload hx hb d_M_wrongWith_201 (lv_at hl 7 rfl) ?_
                    refine nr_iadd hx hb d_M_wrongWith_203 ?_
                    exact W.iret (v := (nI (((100 * 5) + (p1 * 10)) + d))) hx hb hr (fun t ht hW => ⟨_, rfl, congrArg nI (by rw [bf1, if_neg c_177] at hin; rw [if_neg (show ¬ 100 * 5 + 10 * p1 + d = 0 by omega)] at hin; unfold firstFault; rw [if_neg (fun h => h z1), if_neg (fun h => h z2), if_neg (fun h => h z3), if_neg (fun h => h z4)]; omega), ht⟩) (fun q h => by cases h) d_M_wrongWith_204
        | succ k ih_59 =>
          refine lv_iload_n hx hb d_M_wrongWith_59 rfl (lv_at hl 3 rfl) ?_
          refine lv_aload_n hx hb d_M_wrongWith_60 rfl (lv_at hl 0 rfl) ?_
          refine va_get (D := D) (ci := 3) (v := .int (nI (P 0 0))) (C := R_M) (T := F_M) (N := 26) hx hb htb u_M hown hK hP 0 rfl rfl 1 (by decide) (htb _ q580) (fun _ h9 => h9) rfl d_M_wrongWith_61 ?_
          refine nr_icmp_ge (tgt := 259) hx hb (by omega) (by omega) d_M_wrongWith_64 (by decide) (fun c_64 => by exfalso; omega) (fun c_64 => ?_)
          refine nr_iconst hx hb 0 d_M_wrongWith_67 (by decide) ?_
          refine lv_istore (lv' := [(4, .int (nI 0)), (0, .ref (am 0)), (1, .ref a), (2, .int (nI 4)), (3, .int (nI p1))]) hx hb d_M_wrongWith_68 hl (by decide) rfl (fun ls hl => ?_)
          refine nr_iconst hx hb 0 d_M_wrongWith_70 (by decide) ?_
          refine lv_istore (lv' := [(5, .int (nI 0)), (4, .int (nI 0)), (0, .ref (am 0)), (1, .ref a), (2, .int (nI 4)), (3, .int (nI p1))]) hx hb d_M_wrongWith_71 hl (by decide) rfl (fun ls hl => ?_)
          replace hl : ∃ k2 d last : Nat, (d + k2 = P 0 1) ∧ ((if wr4 P sh p1 k2 d = 0 then gf P sh k (p1 + 1) else wr4 P sh p1 k2 d) = nightsFault P sh) ∧ lv_has ls 8 [(0, .ref (am 0)), (1, .ref a), (2, .int (nI 4)), (3, .int (nI p1)), (4, .int (nI last)), (5, .int (nI d))] := ⟨P 0 1, 0, 0, Nat.zero_add _, (by rw [wr4_eq, ← hres, gf]), lv_sub hl [2, 3, 4, 5, 1, 0] rfl⟩
          obtain ⟨k2, d, last, hkd, hin, hl⟩ := hl
          induction k2 generalizing d last ls with
          | zero =>
            refine lv_iload hx hb d_M_wrongWith_73 (lv_at hl 5 rfl) ?_
            refine lv_aload_n hx hb d_M_wrongWith_75 rfl (lv_at hl 0 rfl) ?_
            refine va_get (D := D) (ci := 3) (v := .int (nI (P 0 1))) (C := R_M) (T := F_M) (N := 26) hx hb htb u_M hown hK hP 0 rfl rfl 2 (by decide) (htb _ q581) (fun _ h9 => h9) rfl d_M_wrongWith_76 ?_
            refine nr_icmp_ge (tgt := 211) hx hb (by omega) (by omega) d_M_wrongWith_79 (by decide) (fun c_79 => ?_) (fun c_79 => by exfalso; omega)
            refine lv_iload_n hx hb d_M_wrongWith_211 rfl (lv_at hl 2 rfl) ?_
            refine nr_iconst hx hb 3 d_M_wrongWith_212 (by decide) ?_
            refine nr_icmp_ne (tgt := 253) hx hb (by omega) (by omega) d_M_wrongWith_213 (by decide) (fun c_213 => ?_) (fun c_213 => by exfalso; omega)
            refine nr_iinc (k := 3) (lv' := [(3, .int (nI (p1 + 1))), (0, .ref (am 0)), (1, .ref a), (2, .int (nI 4)), (4, .int (nI last)), (5, .int (nI d))]) hx hb d_M_wrongWith_253 hl rfl (by decide) rfl (fun ls hl => ?_)
            refine lv_goto (tgt := 59) hx hb d_M_wrongWith_256 (by decide) ?_
            exact ih_59 _ _ (by omega) (by rw [wr4, if_pos rfl] at hin; exact hin) (lv_sub hl [1, 2, 3, 0] rfl)
          | succ k2 ih_73 =>
            refine lv_iload hx hb d_M_wrongWith_73 (lv_at hl 5 rfl) ?_
            refine lv_aload_n hx hb d_M_wrongWith_75 rfl (lv_at hl 0 rfl) ?_
            refine va_get (D := D) (ci := 3) (v := .int (nI (P 0 1))) (C := R_M) (T := F_M) (N := 26) hx hb htb u_M hown hK hP 0 rfl rfl 2 (by decide) (htb _ q581) (fun _ h9 => h9) rfl d_M_wrongWith_76 ?_
            refine nr_icmp_ge (tgt := 211) hx hb (by omega) (by omega) d_M_wrongWith_79 (by decide) (fun c_79 => by exfalso; omega) (fun c_79 => ?_)
            refine lv_aload_n hx hb d_M_wrongWith_82 rfl (lv_at hl 1 rfl) ?_
            refine nr_bipush hx hb 6 d_M_wrongWith_83 (by decide) ?_
            refine lv_iload hx hb d_M_wrongWith_85 (lv_at hl 5 rfl) ?_
            refine nr_imul hx hb d_M_wrongWith_87 ?_
            refine nr_top (y := nI (d * 6)) (congrArg nI (Nat.mul_comm _ _)) ?_
            refine lv_iload_n hx hb d_M_wrongWith_88 rfl (lv_at hl 3 rfl) ?_
            refine nr_iadd hx hb d_M_wrongWith_89 ?_
            refine nr_iald hx hb hK hP 15 14 rfl rfl (by omega) (by decide) d_M_wrongWith_90 ?_
            have hv_4 := hsh ((d * 6) + p1)
            refine lv_istore (lv' := [(6, .int (nI (sh ((d * 6) + p1)))), (0, .ref (am 0)), (1, .ref a), (2, .int (nI 4)), (3, .int (nI p1)), (4, .int (nI last)), (5, .int (nI d))]) hx hb d_M_wrongWith_91 hl (by decide) rfl (fun ls hl => ?_)
            refine lv_iload hx hb d_M_wrongWith_93 (lv_at hl 0 rfl) ?_
            refine nr_if_le (tgt := 103) hx hb (by omega) d_M_wrongWith_95 (by decide) (fun c_95 => ?_) (fun c_95 => ?_)
            · refine lv_iload hx hb d_M_wrongWith_103 (lv_at hl 5 rfl) ?_
              refine lv_istore (lv' := [(4, .int (nI last)), (6, .int (nI (sh ((d * 6) + p1)))), (0, .ref (am 0)), (1, .ref a), (2, .int (nI 4)), (3, .int (nI p1)), (5, .int (nI d))]) hx hb d_M_wrongWith_105 hl (by decide) rfl (fun ls hl => ?_)
              refine lv_iload_n hx hb d_M_wrongWith_107 rfl (lv_at hl 4 rfl) ?_
              refine nr_iconst hx hb 2 d_M_wrongWith_108 (by decide) ?_
              refine nr_icmp_ne (tgt := 123) hx hb (by omega) (by omega) d_M_wrongWith_109 (by decide) (fun c_109 => ?_) (fun c_109 => by exfalso; omega)
              refine lv_iload_n hx hb d_M_wrongWith_123 rfl (lv_at hl 4 rfl) ?_
              refine nr_iconst hx hb 4 d_M_wrongWith_124 (by decide) ?_
              refine nr_icmp_ne (tgt := 150) hx hb (by omega) (by omega) d_M_wrongWith_125 (by decide) (fun c_125 => by exfalso; omega) (fun c_125 => ?_)
              refine lv_aload_n hx hb d_M_wrongWith_128 rfl (lv_at hl 3 rfl) ?_
              refine lv_iload_n hx hb d_M_wrongWith_129 rfl (lv_at hl 5 rfl) ?_
              refine lv_iload hx hb d_M_wrongWith_130 (lv_at hl 6 rfl) ?_
              refine nr_calli (va_runS (As := [.ref a, .int (nI p1), .int (nI d)]) (rest := []) ⟨hx, hb, hml, hown, hts⟩ (c_M_nightsTo l D a cS sh hsh p1 d (by omega) (by omega)) ⟨callB_of 3 hts (gTB q_M_nightsTo) rfl rfl rfl (htb _ q4) (htb _ q739) hd_M_nightsTo ⟨Nat.le_of_ble_eq_true rfl, Nat.le_of_ble_eq_true rfl⟩, (htb _ q740)⟩ ⟨ro_blind, ro_pre hN (hP.sub (ws' := [(a, .inl (cS, 42, .inl (fun k => nI (sh k))))]) [15] rfl) (hK.sub (tys' := [(cS, .int)]) [14] rfl)⟩ rfl rfl hl.1 rfl (lv_room (Nat.le_of_ble_eq_true rfl)) d_M_wrongWith_132 ⟨Nat.le_of_ble_eq_true rfl, Nat.le_of_ble_eq_true rfl⟩) (fun r_5 hr_5 => ?_)
              subst hr_5
              have hr7 := run_le sh p1 (d + 1)
              refine lv_aload_n hx hb d_M_wrongWith_135 rfl (lv_at hl 2 rfl) ?_
              refine va_get (D := D) (ci := 3) (v := .int (nI (P 0 4))) (C := R_M) (T := F_M) (N := 26) hx hb htb u_M hown hK hP 0 rfl rfl 16 (by decide) (htb _ q595) (fun _ h9 => h9) rfl d_M_wrongWith_136 ?_
              refine nr_icmp_le (tgt := 146) hx hb (by omega) (by omega) d_M_wrongWith_139 (by decide) (fun c_139 => ?_) (fun c_139 => ?_)
              · refine nr_iconst hx hb 0 d_M_wrongWith_146 (by decide) ?_
                refine lv_goto (tgt := 185) hx hb d_M_wrongWith_147 (by decide) ?_
                refine lv_istore (lv' := [(7, .int (nI 0)), (4, .int (nI last)), (6, .int (nI (sh ((d * 6) + p1)))), (0, .ref (am 0)), (1, .ref a), (2, .int (nI 4)), (3, .int (nI p1)), (5, .int (nI d))]) hx hb d_M_wrongWith_185 hl (by decide) rfl (fun ls hl => ?_)
                refine lv_iload hx hb d_M_wrongWith_187 (lv_at hl 0 rfl) ?_
                refine nr_if_eq (tgt := 205) hx hb (by omega) d_M_wrongWith_189 (by decide) (fun c_189 => ?_) (fun c_189 => by exfalso; omega)
                refine nr_iinc (k := 7) (lv' := [(5, .int (nI (d + 1))), (7, .int (nI 0)), (4, .int (nI last)), (6, .int (nI (sh ((d * 6) + p1)))), (0, .ref (am 0)), (1, .ref a), (2, .int (nI 4)), (3, .int (nI p1))]) hx hb d_M_wrongWith_205 hl rfl (by decide) rfl (fun ls hl => ?_)
                refine lv_goto (tgt := 73) hx hb d_M_wrongWith_208 (by decide) ?_
                exact ih_73 _ _ _ (by omega) (by rw [wr4, if_neg (show ¬ P 0 4 < run sh p1 (d + 1) by omega)] at hin; exact hin) (lv_sub hl [4, 5, 6, 7, 2, 0] rfl)
              · refine nr_iconst hx hb 1 d_M_wrongWith_142 (by decide) ?_
                refine lv_goto (tgt := 185) hx hb d_M_wrongWith_143 (by decide) ?_
                refine lv_istore (lv' := [(7, .int (nI 1)), (4, .int (nI last)), (6, .int (nI (sh ((d * 6) + p1)))), (0, .ref (am 0)), (1, .ref a), (2, .int (nI 4)), (3, .int (nI p1)), (5, .int (nI d))]) hx hb d_M_wrongWith_185 hl (by decide) rfl (fun ls hl => ?_)
                refine lv_iload hx hb d_M_wrongWith_187 (lv_at hl 0 rfl) ?_
                refine nr_if_eq (tgt := 205) hx hb (by omega) d_M_wrongWith_189 (by decide) (fun c_189 => by exfalso; omega) (fun c_189 => ?_)
                refine nr_bipush hx hb 100 d_M_wrongWith_192 (by decide) ?_
                refine lv_iload_n hx hb d_M_wrongWith_194 rfl (lv_at hl 5 rfl) ?_
                refine nr_imul hx hb d_M_wrongWith_195 ?_
                refine nr_bipush hx hb 10 d_M_wrongWith_196 (by decide) ?_
                refine lv_iload_n hx hb d_M_wrongWith_198 rfl (lv_at hl 6 rfl) ?_
                refine nr_imul hx hb d_M_wrongWith_199 ?_
                refine nr_top (y := nI (p1 * 10)) (congrArg nI (Nat.mul_comm _ _)) ?_
                refine nr_iadd hx hb d_M_wrongWith_200 ?_
                refine lv_iload hx hb d_M_wrongWith_201 (lv_at hl 7 rfl) ?_
                refine nr_iadd hx hb d_M_wrongWith_203 ?_
                exact W.iret (v := (nI (((100 * 4) + (p1 * 10)) + d))) hx hb hr (fun t ht hW => ⟨_, rfl, congrArg nI (by rw [wr4, if_pos (show P 0 4 < run sh p1 (d + 1) by omega)] at hin; rw [if_neg (show ¬ 100 * 4 + 10 * p1 + d = 0 by omega)] at hin; unfold firstFault; rw [if_neg (fun h => h z1), if_neg (fun h => h z2), if_neg (fun h => h z3)]; rw [if_pos (show nightsFault P sh ≠ 0 by omega)]; omega), ht⟩) (fun q h => by cases h) d_M_wrongWith_204
            · refine lv_iload hx hb d_M_wrongWith_98 (lv_at hl 6 rfl) ?_
              refine lv_goto (tgt := 105) hx hb d_M_wrongWith_100 (by decide) ?_
              refine lv_istore (lv' := [(4, .int (nI d)), (6, .int (nI (sh ((d * 6) + p1)))), (0, .ref (am 0)), (1, .ref a), (2, .int (nI 4)), (3, .int (nI p1)), (5, .int (nI d))]) hx hb d_M_wrongWith_105 hl (by decide) rfl (fun ls hl => ?_)
              refine lv_iload_n hx hb d_M_wrongWith_107 rfl (lv_at hl 4 rfl) ?_
              refine nr_iconst hx hb 2 d_M_wrongWith_108 (by decide) ?_
              refine nr_icmp_ne (tgt := 123) hx hb (by omega) (by omega) d_M_wrongWith_109 (by decide) (fun c_109 => ?_) (fun c_109 => by exfalso; omega)
              refine lv_iload_n hx hb d_M_wrongWith_123 rfl (lv_at hl 4 rfl) ?_
              refine nr_iconst hx hb 4 d_M_wrongWith_124 (by decide) ?_
              refine nr_icmp_ne (tgt := 150) hx hb (by omega) (by omega) d_M_wrongWith_125 (by decide) (fun c_125 => by exfalso; omega) (fun c_125 => ?_)
              refine lv_aload_n hx hb d_M_wrongWith_128 rfl (lv_at hl 3 rfl) ?_
              refine lv_iload_n hx hb d_M_wrongWith_129 rfl (lv_at hl 5 rfl) ?_
              refine lv_iload hx hb d_M_wrongWith_130 (lv_at hl 6 rfl) ?_
              refine nr_calli (va_runS (As := [.ref a, .int (nI p1), .int (nI d)]) (rest := []) ⟨hx, hb, hml, hown, hts⟩ (c_M_nightsTo l D a cS sh hsh p1 d (by omega) (by omega)) ⟨callB_of 3 hts (gTB q_M_nightsTo) rfl rfl rfl (htb _ q4) (htb _ q739) hd_M_nightsTo ⟨Nat.le_of_ble_eq_true rfl, Nat.le_of_ble_eq_true rfl⟩, (htb _ q740)⟩ ⟨ro_blind, ro_pre hN (hP.sub (ws' := [(a, .inl (cS, 42, .inl (fun k => nI (sh k))))]) [15] rfl) (hK.sub (tys' := [(cS, .int)]) [14] rfl)⟩ rfl rfl hl.1 rfl (lv_room (Nat.le_of_ble_eq_true rfl)) d_M_wrongWith_132 ⟨Nat.le_of_ble_eq_true rfl, Nat.le_of_ble_eq_true rfl⟩) (fun r_6 hr_6 => ?_)
              subst hr_6
              have hr7 := run_le sh p1 (d + 1)
              refine lv_aload_n hx hb d_M_wrongWith_135 rfl (lv_at hl 2 rfl) ?_
              refine va_get (D := D) (ci := 3) (v := .int (nI (P 0 4))) (C := R_M) (T := F_M) (N := 26) hx hb htb u_M hown hK hP 0 rfl rfl 16 (by decide) (htb _ q595) (fun _ h9 => h9) rfl d_M_wrongWith_136 ?_
              refine nr_icmp_le (tgt := 146) hx hb (by omega) (by omega) d_M_wrongWith_139 (by decide) (fun c_139 => ?_) (fun c_139 => ?_)
              · refine nr_iconst hx hb 0 d_M_wrongWith_146 (by decide) ?_
                refine lv_goto (tgt := 185) hx hb d_M_wrongWith_147 (by decide) ?_
                refine lv_istore (lv' := [(7, .int (nI 0)), (4, .int (nI d)), (6, .int (nI (sh ((d * 6) + p1)))), (0, .ref (am 0)), (1, .ref a), (2, .int (nI 4)), (3, .int (nI p1)), (5, .int (nI d))]) hx hb d_M_wrongWith_185 hl (by decide) rfl (fun ls hl => ?_)
                refine lv_iload hx hb d_M_wrongWith_187 (lv_at hl 0 rfl) ?_
                refine nr_if_eq (tgt := 205) hx hb (by omega) d_M_wrongWith_189 (by decide) (fun c_189 => ?_) (fun c_189 => by exfalso; omega)
                refine nr_iinc (k := 7) (lv' := [(5, .int (nI (d + 1))), (7, .int (nI 0)), (4, .int (nI d)), (6, .int (nI (sh ((d * 6) + p1)))), (0, .ref (am 0)), (1, .ref a), (2, .int (nI 4)), (3, .int (nI p1))]) hx hb d_M_wrongWith_205 hl rfl (by decide) rfl (fun ls hl => ?_)
                refine lv_goto (tgt := 73) hx hb d_M_wrongWith_208 (by decide) ?_
                exact ih_73 _ _ _ (by omega) (by rw [wr4, if_neg (show ¬ P 0 4 < run sh p1 (d + 1) by omega)] at hin; exact hin) (lv_sub hl [4, 5, 6, 7, 2, 0] rfl)
              · refine nr_iconst hx hb 1 d_M_wrongWith_142 (by decide) ?_
                refine lv_goto (tgt := 185) hx hb d_M_wrongWith_143 (by decide) ?_
                refine lv_istore (lv' := [(7, .int (nI 1)), (4, .int (nI d)), (6, .int (nI (sh ((d * 6) + p1)))), (0, .ref (am 0)), (1, .ref a), (2, .int (nI 4)), (3, .int (nI p1)), (5, .int (nI d))]) hx hb d_M_wrongWith_185 hl (by decide) rfl (fun ls hl => ?_)
                refine lv_iload hx hb d_M_wrongWith_187 (lv_at hl 0 rfl) ?_
                refine nr_if_eq (tgt := 205) hx hb (by omega) d_M_wrongWith_189 (by decide) (fun c_189 => by exfalso; omega) (fun c_189 => ?_)
                refine nr_bipush hx hb 100 d_M_wrongWith_192 (by decide) ?_
                refine lv_iload_n hx hb d_M_wrongWith_194 rfl (lv_at hl 5 rfl) ?_
                refine nr_imul hx hb d_M_wrongWith_195 ?_
                refine nr_bipush hx hb 10 d_M_wrongWith_196 (by decide) ?_
                refine lv_iload_n hx hb d_M_wrongWith_198 rfl (lv_at hl 6 rfl) ?_
                refine nr_imul hx hb d_M_wrongWith_199 ?_
                refine nr_top (y := nI (p1 * 10)) (congrArg nI (Nat.mul_comm _ _)) ?_
                refine nr_iadd hx hb d_M_wrongWith_200 ?_
                refine lv_iload hx hb d_M_wrongWith_201 (lv_at hl 7 rfl) ?_
                refine nr_iadd hx hb d_M_wrongWith_203 ?_
                exact W.iret (v := (nI (((100 * 4) + (p1 * 10)) + d))) hx hb hr (fun t ht hW => ⟨_, rfl, congrArg nI (by rw [wr4, if_pos (show P 0 4 < run sh p1 (d + 1) by omega)] at hin; rw [if_neg (show ¬ 100 * 4 + 10 * p1 + d = 0 by omega)] at hin; unfold firstFault; rw [if_neg (fun h => h z1), if_neg (fun h => h z2), if_neg (fun h => h z3)]; rw [if_pos (show nightsFault P sh ≠ 0 by omega)]; omega), ht⟩) (fun q h => by cases h) d_M_wrongWith_204
      | succ k ih_59 =>
        refine lv_iload_n hx hb d_M_wrongWith_59 rfl (lv_at hl 3 rfl) ?_
        refine lv_aload_n hx hb d_M_wrongWith_60 rfl (lv_at hl 0 rfl) ?_
        refine va_get (D := D) (ci := 3) (v := .int (nI (P 0 0))) (C := R_M) (T := F_M) (N := 26) hx hb htb u_M hown hK hP 0 rfl rfl 1 (by decide) (htb _ q580) (fun _ h9 => h9) rfl d_M_wrongWith_61 ?_
        refine nr_icmp_ge (tgt := 259) hx hb (by omega) (by omega) d_M_wrongWith_64 (by decide) (fun c_64 => by exfalso; omega) (fun c_64 => ?_)
        refine nr_iconst hx hb 0 d_M_wrongWith_67 (by decide) ?_
        refine lv_istore (lv' := [(4, .int (nI 0)), (0, .ref (am 0)), (1, .ref a), (2, .int (nI 3)), (3, .int (nI p1))]) hx hb d_M_wrongWith_68 hl (by decide) rfl (fun ls hl => ?_)
        refine nr_iconst hx hb 0 d_M_wrongWith_70 (by decide) ?_
        refine lv_istore (lv' := [(5, .int (nI 0)), (4, .int (nI 0)), (0, .ref (am 0)), (1, .ref a), (2, .int (nI 3)), (3, .int (nI p1))]) hx hb d_M_wrongWith_71 hl (by decide) rfl (fun ls hl => ?_)
        replace hl : ∃ k2 d last : Nat, (d + k2 = P 0 1) ∧ (mh sh p1 k2 d (cnt sh p1 d) last = mh sh p1 (P 0 1) 0 0 0) ∧ lv_has ls 8 [(0, .ref (am 0)), (1, .ref a), (2, .int (nI 3)), (3, .int (nI p1)), (4, .int (nI last)), (5, .int (nI d))] := ⟨P 0 1, 0, 0, Nat.zero_add _, rfl, lv_sub hl [2, 3, 4, 5, 1, 0] rfl⟩
        obtain ⟨k2, d, last, hkd, hm, hl⟩ := hl
        induction k2 generalizing d last ls with
        | zero =>
          refine lv_iload hx hb d_M_wrongWith_73 (lv_at hl 5 rfl) ?_
          refine lv_aload_n hx hb d_M_wrongWith_75 rfl (lv_at hl 0 rfl) ?_
          refine va_get (D := D) (ci := 3) (v := .int (nI (P 0 1))) (C := R_M) (T := F_M) (N := 26) hx hb htb u_M hown hK hP 0 rfl rfl 2 (by decide) (htb _ q581) (fun _ h9 => h9) rfl d_M_wrongWith_76 ?_
          refine nr_icmp_ge (tgt := 211) hx hb (by omega) (by omega) d_M_wrongWith_79 (by decide) (fun c_79 => ?_) (fun c_79 => by exfalso; omega)
          rw [mh] at hm
          have hdz : d = P 0 1 := by omega
          have e1 : (mh sh p1 (P 0 1) 0 0 0).1 = cnt sh p1 (P 0 1) := by rw [← hm, ← hdz]
          have e2 : (mh sh p1 (P 0 1) 0 0 0).2 = last := by rw [← hm]
          have hc7 := cnt_le sh p1 (P 0 1)
          refine lv_iload_n hx hb d_M_wrongWith_211 rfl (lv_at hl 2 rfl) ?_
          refine nr_iconst hx hb 3 d_M_wrongWith_212 (by decide) ?_
          refine nr_icmp_ne (tgt := 253) hx hb (by omega) (by omega) d_M_wrongWith_213 (by decide) (fun c_213 => by exfalso; omega) (fun c_213 => ?_)
          refine lv_aload_n hx hb d_M_wrongWith_216 rfl (lv_at hl 0 rfl) ?_
          refine va_get (D := D) (ci := 3) (v := .int (nI (P 0 1))) (C := R_M) (T := F_M) (N := 26) hx hb htb u_M hown hK hP 0 rfl rfl 2 (by decide) (htb _ q581) (fun _ h9 => h9) rfl d_M_wrongWith_217 ?_
          refine nr_if_le (tgt := 253) hx hb (by omega) d_M_wrongWith_220 (by decide) (fun c_220 => ?_) (fun c_220 => ?_)
          · have hmo : (mh sh p1 (P 0 1) 0 0 0).1 ≤ P 0 3 := by rw [e1, c_220]; exact Nat.zero_le _
            refine nr_iinc (k := 3) (lv' := [(3, .int (nI (p1 + 1))), (0, .ref (am 0)), (1, .ref a), (2, .int (nI 3)), (4, .int (nI last)), (5, .int (nI d))]) hx hb d_M_wrongWith_253 hl rfl (by decide) rfl (fun ls hl => ?_)
            refine lv_goto (tgt := 59) hx hb d_M_wrongWith_256 (by decide) ?_
            exact ih_59 _ _ (by omega) (by rw [← hres, mf, if_pos hmo]) (lv_sub hl [1, 2, 3, 0] rfl)
          · refine lv_aload_n hx hb d_M_wrongWith_223 rfl (lv_at hl 1 rfl) ?_
            refine lv_iload_n hx hb d_M_wrongWith_224 rfl (lv_at hl 3 rfl) ?_
            refine lv_aload_n hx hb d_M_wrongWith_225 rfl (lv_at hl 0 rfl) ?_
            refine va_get (D := D) (ci := 3) (v := .int (nI (P 0 1))) (C := R_M) (T := F_M) (N := 26) hx hb htb u_M hown hK hP 0 rfl rfl 2 (by decide) (htb _ q581) (fun _ h9 => h9) rfl d_M_wrongWith_226 ?_
            refine nr_iconst hx hb 1 d_M_wrongWith_229 (by decide) ?_
            refine nr_isub hx hb (by omega) d_M_wrongWith_230 ?_
            refine nr_calli (va_runS (As := [.ref a, .int (nI p1), .int (nI ((P 0 1) - 1))]) (rest := []) ⟨hx, hb, hml, hown, hts⟩ (c_M_many l D a cS sh hsh p1 ((P 0 1) - 1) (by omega) (by omega)) ⟨callB_of 3 hts (gTB q_M_many) rfl rfl rfl (htb _ q4) (htb _ q736) hd_M_many ⟨Nat.le_of_ble_eq_true rfl, Nat.le_of_ble_eq_true rfl⟩, (htb _ q737)⟩ ⟨ro_blind, ro_pre hN (hP.sub (ws' := [(a, .inl (cS, 42, .inl (fun k => nI (sh k))))]) [15] rfl) (hK.sub (tys' := [(cS, .int)]) [14] rfl)⟩ rfl rfl hl.1 rfl (lv_room (Nat.le_of_ble_eq_true rfl)) d_M_wrongWith_231 ⟨Nat.le_of_ble_eq_true rfl, Nat.le_of_ble_eq_true rfl⟩) (fun r_7 hr_7 => ?_)
            subst hr_7
            have hc8 := cnt_le sh p1 (P 0 1 - 1 + 1)
            refine lv_aload_n hx hb d_M_wrongWith_234 rfl (lv_at hl 0 rfl) ?_
            refine va_get (D := D) (ci := 3) (v := .int (nI (P 0 3))) (C := R_M) (T := F_M) (N := 26) hx hb htb u_M hown hK hP 0 rfl rfl 15 (by decide) (htb _ q594) (fun _ h9 => h9) rfl d_M_wrongWith_235 ?_
            refine nr_icmp_le (tgt := 253) hx hb (by omega) (by omega) d_M_wrongWith_238 (by decide) (fun c_238 => ?_) (fun c_238 => ?_)
            · have hmo : (mh sh p1 (P 0 1) 0 0 0).1 ≤ P 0 3 := by rw [e1]; have h9 := c_238; rw [show P 0 1 - 1 + 1 = P 0 1 by omega] at h9; exact h9
              refine nr_iinc (k := 3) (lv' := [(3, .int (nI (p1 + 1))), (0, .ref (am 0)), (1, .ref a), (2, .int (nI 3)), (4, .int (nI last)), (5, .int (nI d))]) hx hb d_M_wrongWith_253 hl rfl (by decide) rfl (fun ls hl => ?_)
              refine lv_goto (tgt := 59) hx hb d_M_wrongWith_256 (by decide) ?_
              exact ih_59 _ _ (by omega) (by rw [← hres, mf, if_pos hmo]) (lv_sub hl [1, 2, 3, 0] rfl)
            · refine nr_sipush hx hb 300 d_M_wrongWith_241 (by decide) ?_
              refine nr_bipush hx hb 10 d_M_wrongWith_244 (by decide) ?_
              refine lv_iload_n hx hb d_M_wrongWith_246 rfl (lv_at hl 3 rfl) ?_
              refine nr_imul hx hb d_M_wrongWith_247 ?_
              refine nr_top (y := nI (p1 * 10)) (congrArg nI (Nat.mul_comm _ _)) ?_
              refine nr_iadd hx hb d_M_wrongWith_248 ?_
              refine lv_iload hx hb d_M_wrongWith_249 (lv_at hl 4 rfl) ?_
              refine nr_iadd hx hb d_M_wrongWith_251 ?_
              exact W.iret (v := (nI ((300 + (p1 * 10)) + last))) hx hb hr (fun t ht hW => ⟨_, rfl, congrArg nI (by have hin := hres; rw [mf, e1, e2, if_neg (show ¬ cnt sh p1 (P 0 1) ≤ P 0 3 by have h9 := c_238; rw [show P 0 1 - 1 + 1 = P 0 1 by omega] at h9; omega)] at hin; unfold firstFault; rw [if_neg (fun h => h z1), if_neg (fun h => h z2)]; rw [if_pos (show mostFault P sh ≠ 0 by omega)]; omega), ht⟩) (fun q h => by cases h) d_M_wrongWith_252
        | succ k2 ih_73 =>
          refine lv_iload hx hb d_M_wrongWith_73 (lv_at hl 5 rfl) ?_
          refine lv_aload_n hx hb d_M_wrongWith_75 rfl (lv_at hl 0 rfl) ?_
          refine va_get (D := D) (ci := 3) (v := .int (nI (P 0 1))) (C := R_M) (T := F_M) (N := 26) hx hb htb u_M hown hK hP 0 rfl rfl 2 (by decide) (htb _ q581) (fun _ h9 => h9) rfl d_M_wrongWith_76 ?_
          refine nr_icmp_ge (tgt := 211) hx hb (by omega) (by omega) d_M_wrongWith_79 (by decide) (fun c_79 => by exfalso; omega) (fun c_79 => ?_)
          refine lv_aload_n hx hb d_M_wrongWith_82 rfl (lv_at hl 1 rfl) ?_
          refine nr_bipush hx hb 6 d_M_wrongWith_83 (by decide) ?_
          refine lv_iload hx hb d_M_wrongWith_85 (lv_at hl 5 rfl) ?_
          refine nr_imul hx hb d_M_wrongWith_87 ?_
          refine nr_top (y := nI (d * 6)) (congrArg nI (Nat.mul_comm _ _)) ?_
          refine lv_iload_n hx hb d_M_wrongWith_88 rfl (lv_at hl 3 rfl) ?_
          refine nr_iadd hx hb d_M_wrongWith_89 ?_
          refine nr_iald hx hb hK hP 15 14 rfl rfl (by omega) (by decide) d_M_wrongWith_90 ?_
          have hv_8 := hsh ((d * 6) + p1)
          refine lv_istore (lv' := [(6, .int (nI (sh ((d * 6) + p1)))), (0, .ref (am 0)), (1, .ref a), (2, .int (nI 3)), (3, .int (nI p1)), (4, .int (nI last)), (5, .int (nI d))]) hx hb d_M_wrongWith_91 hl (by decide) rfl (fun ls hl => ?_)
          refine lv_iload hx hb d_M_wrongWith_93 (lv_at hl 0 rfl) ?_
          refine nr_if_le (tgt := 103) hx hb (by omega) d_M_wrongWith_95 (by decide) (fun c_95 => ?_) (fun c_95 => ?_)
          · refine lv_iload hx hb d_M_wrongWith_103 (lv_at hl 5 rfl) ?_
            refine lv_istore (lv' := [(4, .int (nI last)), (6, .int (nI (sh ((d * 6) + p1)))), (0, .ref (am 0)), (1, .ref a), (2, .int (nI 3)), (3, .int (nI p1)), (5, .int (nI d))]) hx hb d_M_wrongWith_105 hl (by decide) rfl (fun ls hl => ?_)
            refine lv_iload_n hx hb d_M_wrongWith_107 rfl (lv_at hl 4 rfl) ?_
            refine nr_iconst hx hb 2 d_M_wrongWith_108 (by decide) ?_
            refine nr_icmp_ne (tgt := 123) hx hb (by omega) (by omega) d_M_wrongWith_109 (by decide) (fun c_109 => ?_) (fun c_109 => by exfalso; omega)
            refine lv_iload_n hx hb d_M_wrongWith_123 rfl (lv_at hl 4 rfl) ?_
            refine nr_iconst hx hb 4 d_M_wrongWith_124 (by decide) ?_
            refine nr_icmp_ne (tgt := 150) hx hb (by omega) (by omega) d_M_wrongWith_125 (by decide) (fun c_125 => ?_) (fun c_125 => by exfalso; omega)
            refine lv_iload_n hx hb d_M_wrongWith_150 rfl (lv_at hl 4 rfl) ?_
            refine nr_iconst hx hb 5 d_M_wrongWith_151 (by decide) ?_
            refine nr_icmp_ne (tgt := 184) hx hb (by omega) (by omega) d_M_wrongWith_152 (by decide) (fun c_152 => ?_) (fun c_152 => by exfalso; omega)
            refine nr_iconst hx hb 0 d_M_wrongWith_184 (by decide) ?_
            refine lv_istore (lv' := [(7, .int (nI 0)), (4, .int (nI last)), (6, .int (nI (sh ((d * 6) + p1)))), (0, .ref (am 0)), (1, .ref a), (2, .int (nI 3)), (3, .int (nI p1)), (5, .int (nI d))]) hx hb d_M_wrongWith_185 hl (by decide) rfl (fun ls hl => ?_)
            refine lv_iload hx hb d_M_wrongWith_187 (lv_at hl 0 rfl) ?_
            refine nr_if_eq (tgt := 205) hx hb (by omega) d_M_wrongWith_189 (by decide) (fun c_189 => ?_) (fun c_189 => by exfalso; omega)
            refine nr_iinc (k := 7) (lv' := [(5, .int (nI (d + 1))), (7, .int (nI 0)), (4, .int (nI last)), (6, .int (nI (sh ((d * 6) + p1)))), (0, .ref (am 0)), (1, .ref a), (2, .int (nI 3)), (3, .int (nI p1))]) hx hb d_M_wrongWith_205 hl rfl (by decide) rfl (fun ls hl => ?_)
            refine lv_goto (tgt := 73) hx hb d_M_wrongWith_208 (by decide) ?_
            exact ih_73 _ _ _ (by omega) (by rw [← hm, mh, cnt, if_pos c_95, if_pos c_95]; rfl) (lv_sub hl [4, 5, 6, 7, 2, 0] rfl)
          · refine lv_iload hx hb d_M_wrongWith_98 (lv_at hl 6 rfl) ?_
            refine lv_goto (tgt := 105) hx hb d_M_wrongWith_100 (by decide) ?_
            refine lv_istore (lv' := [(4, .int (nI d)), (6, .int (nI (sh ((d * 6) + p1)))), (0, .ref (am 0)), (1, .ref a), (2, .int (nI 3)), (3, .int (nI p1)), (5, .int (nI d))]) hx hb d_M_wrongWith_105 hl (by decide) rfl (fun ls hl => ?_)
            refine lv_iload_n hx hb d_M_wrongWith_107 rfl (lv_at hl 4 rfl) ?_
            refine nr_iconst hx hb 2 d_M_wrongWith_108 (by decide) ?_
            refine nr_icmp_ne (tgt := 123) hx hb (by omega) (by omega) d_M_wrongWith_109 (by decide) (fun c_109 => ?_) (fun c_109 => by exfalso; omega)
            refine lv_iload_n hx hb d_M_wrongWith_123 rfl (lv_at hl 4 rfl) ?_
            refine nr_iconst hx hb 4 d_M_wrongWith_124 (by decide) ?_
            refine nr_icmp_ne (tgt := 150) hx hb (by omega) (by omega) d_M_wrongWith_125 (by decide) (fun c_125 => ?_) (fun c_125 => by exfalso; omega)
            refine lv_iload_n hx hb d_M_wrongWith_150 rfl (lv_at hl 4 rfl) ?_
            refine nr_iconst hx hb 5 d_M_wrongWith_151 (by decide) ?_
            refine nr_icmp_ne (tgt := 184) hx hb (by omega) (by omega) d_M_wrongWith_152 (by decide) (fun c_152 => ?_) (fun c_152 => by exfalso; omega)
            refine nr_iconst hx hb 0 d_M_wrongWith_184 (by decide) ?_
            refine lv_istore (lv' := [(7, .int (nI 0)), (4, .int (nI d)), (6, .int (nI (sh ((d * 6) + p1)))), (0, .ref (am 0)), (1, .ref a), (2, .int (nI 3)), (3, .int (nI p1)), (5, .int (nI d))]) hx hb d_M_wrongWith_185 hl (by decide) rfl (fun ls hl => ?_)
            refine lv_iload hx hb d_M_wrongWith_187 (lv_at hl 0 rfl) ?_
            refine nr_if_eq (tgt := 205) hx hb (by omega) d_M_wrongWith_189 (by decide) (fun c_189 => ?_) (fun c_189 => by exfalso; omega)
            refine nr_iinc (k := 7) (lv' := [(5, .int (nI (d + 1))), (7, .int (nI 0)), (4, .int (nI d)), (6, .int (nI (sh ((d * 6) + p1)))), (0, .ref (am 0)), (1, .ref a), (2, .int (nI 3)), (3, .int (nI p1))]) hx hb d_M_wrongWith_205 hl rfl (by decide) rfl (fun ls hl => ?_)
            refine lv_goto (tgt := 73) hx hb d_M_wrongWith_208 (by decide) ?_
            exact ih_73 _ _ _ (by omega) (by rw [← hm, mh, cnt, if_neg (show ¬ sh (d * 6 + p1) = 0 by omega), if_neg (show ¬ sh (d * 6 + p1) = 0 by omega)]) (lv_sub hl [4, 5, 6, 7, 2, 0] rfl)
    | succ k ih_59 =>
      refine lv_iload_n hx hb d_M_wrongWith_59 rfl (lv_at hl 3 rfl) ?_
      refine lv_aload_n hx hb d_M_wrongWith_60 rfl (lv_at hl 0 rfl) ?_
      refine va_get (D := D) (ci := 3) (v := .int (nI (P 0 0))) (C := R_M) (T := F_M) (N := 26) hx hb htb u_M hown hK hP 0 rfl rfl 1 (by decide) (htb _ q580) (fun _ h9 => h9) rfl d_M_wrongWith_61 ?_
      refine nr_icmp_ge (tgt := 259) hx hb (by omega) (by omega) d_M_wrongWith_64 (by decide) (fun c_64 => by exfalso; omega) (fun c_64 => ?_)
      refine nr_iconst hx hb 0 d_M_wrongWith_67 (by decide) ?_
      refine lv_istore (lv' := [(4, .int (nI 0)), (0, .ref (am 0)), (1, .ref a), (2, .int (nI 2)), (3, .int (nI p1))]) hx hb d_M_wrongWith_68 hl (by decide) rfl (fun ls hl => ?_)
      refine nr_iconst hx hb 0 d_M_wrongWith_70 (by decide) ?_
      refine lv_istore (lv' := [(5, .int (nI 0)), (4, .int (nI 0)), (0, .ref (am 0)), (1, .ref a), (2, .int (nI 2)), (3, .int (nI p1))]) hx hb d_M_wrongWith_71 hl (by decide) rfl (fun ls hl => ?_)
      replace hl : ∃ k2 d last : Nat, (d + k2 = P 0 1) ∧ ((if wr2 P sh p1 k2 d = 0 then rf P sh k (p1 + 1) else wr2 P sh p1 k2 d) = restFault P sh) ∧ lv_has ls 8 [(0, .ref (am 0)), (1, .ref a), (2, .int (nI 2)), (3, .int (nI p1)), (4, .int (nI last)), (5, .int (nI d))] := ⟨P 0 1, 0, 0, Nat.zero_add _, (by rw [wr2_eq, ← hres, rf]), lv_sub hl [2, 3, 4, 5, 1, 0] rfl⟩
      obtain ⟨k2, d, last, hkd, hin, hl⟩ := hl
      induction k2 generalizing d last ls with
      | zero =>
        refine lv_iload hx hb d_M_wrongWith_73 (lv_at hl 5 rfl) ?_
        refine lv_aload_n hx hb d_M_wrongWith_75 rfl (lv_at hl 0 rfl) ?_
        refine va_get (D := D) (ci := 3) (v := .int (nI (P 0 1))) (C := R_M) (T := F_M) (N := 26) hx hb htb u_M hown hK hP 0 rfl rfl 2 (by decide) (htb _ q581) (fun _ h9 => h9) rfl d_M_wrongWith_76 ?_
        refine nr_icmp_ge (tgt := 211) hx hb (by omega) (by omega) d_M_wrongWith_79 (by decide) (fun c_79 => ?_) (fun c_79 => by exfalso; omega)
        refine lv_iload_n hx hb d_M_wrongWith_211 rfl (lv_at hl 2 rfl) ?_
        refine nr_iconst hx hb 3 d_M_wrongWith_212 (by decide) ?_
        refine nr_icmp_ne (tgt := 253) hx hb (by omega) (by omega) d_M_wrongWith_213 (by decide) (fun c_213 => ?_) (fun c_213 => by exfalso; omega)
        refine nr_iinc (k := 3) (lv' := [(3, .int (nI (p1 + 1))), (0, .ref (am 0)), (1, .ref a), (2, .int (nI 2)), (4, .int (nI last)), (5, .int (nI d))]) hx hb d_M_wrongWith_253 hl rfl (by decide) rfl (fun ls hl => ?_)
        refine lv_goto (tgt := 59) hx hb d_M_wrongWith_256 (by decide) ?_
        exact ih_59 _ _ (by omega) (by rw [wr2, if_pos rfl] at hin; exact hin) (lv_sub hl [1, 2, 3, 0] rfl)
      | succ k2 ih_73 =>
        refine lv_iload hx hb d_M_wrongWith_73 (lv_at hl 5 rfl) ?_
        refine lv_aload_n hx hb d_M_wrongWith_75 rfl (lv_at hl 0 rfl) ?_
        refine va_get (D := D) (ci := 3) (v := .int (nI (P 0 1))) (C := R_M) (T := F_M) (N := 26) hx hb htb u_M hown hK hP 0 rfl rfl 2 (by decide) (htb _ q581) (fun _ h9 => h9) rfl d_M_wrongWith_76 ?_
        refine nr_icmp_ge (tgt := 211) hx hb (by omega) (by omega) d_M_wrongWith_79 (by decide) (fun c_79 => by exfalso; omega) (fun c_79 => ?_)
        refine lv_aload_n hx hb d_M_wrongWith_82 rfl (lv_at hl 1 rfl) ?_
        refine nr_bipush hx hb 6 d_M_wrongWith_83 (by decide) ?_
        refine lv_iload hx hb d_M_wrongWith_85 (lv_at hl 5 rfl) ?_
        refine nr_imul hx hb d_M_wrongWith_87 ?_
        refine nr_top (y := nI (d * 6)) (congrArg nI (Nat.mul_comm _ _)) ?_
        refine lv_iload_n hx hb d_M_wrongWith_88 rfl (lv_at hl 3 rfl) ?_
        refine nr_iadd hx hb d_M_wrongWith_89 ?_
        refine nr_iald hx hb hK hP 15 14 rfl rfl (by omega) (by decide) d_M_wrongWith_90 ?_
        have hv_9 := hsh ((d * 6) + p1)
        refine lv_istore (lv' := [(6, .int (nI (sh ((d * 6) + p1)))), (0, .ref (am 0)), (1, .ref a), (2, .int (nI 2)), (3, .int (nI p1)), (4, .int (nI last)), (5, .int (nI d))]) hx hb d_M_wrongWith_91 hl (by decide) rfl (fun ls hl => ?_)
        refine lv_iload hx hb d_M_wrongWith_93 (lv_at hl 0 rfl) ?_
        refine nr_if_le (tgt := 103) hx hb (by omega) d_M_wrongWith_95 (by decide) (fun c_95 => ?_) (fun c_95 => ?_)
        · refine lv_iload hx hb d_M_wrongWith_103 (lv_at hl 5 rfl) ?_
          refine lv_istore (lv' := [(4, .int (nI last)), (6, .int (nI (sh ((d * 6) + p1)))), (0, .ref (am 0)), (1, .ref a), (2, .int (nI 2)), (3, .int (nI p1)), (5, .int (nI d))]) hx hb d_M_wrongWith_105 hl (by decide) rfl (fun ls hl => ?_)
          refine lv_iload_n hx hb d_M_wrongWith_107 rfl (lv_at hl 4 rfl) ?_
          refine nr_iconst hx hb 2 d_M_wrongWith_108 (by decide) ?_
          refine nr_icmp_ne (tgt := 123) hx hb (by omega) (by omega) d_M_wrongWith_109 (by decide) (fun c_109 => by exfalso; omega) (fun c_109 => ?_)
          refine lv_aload_n hx hb d_M_wrongWith_112 rfl (lv_at hl 2 rfl) ?_
          refine lv_aload_n hx hb d_M_wrongWith_113 rfl (lv_at hl 3 rfl) ?_
          refine lv_iload_n hx hb d_M_wrongWith_114 rfl (lv_at hl 5 rfl) ?_
          refine lv_iload hx hb d_M_wrongWith_115 (lv_at hl 6 rfl) ?_
          refine nr_calli (va_runV (As := [.ref a, .int (nI p1), .int (nI d)]) (rest := []) ⟨hx, hb, hml, hown, hts⟩ (c_M_isTired l D am cm P G X a cS sh hP0 hG0 hX0 hsh p1 d (by omega) (by omega)) ⟨callB_of 3 hts (gTB q_M_isTired) rfl rfl rfl (htb _ q4) (htb _ q729) hd_M_isTired ⟨Nat.le_of_ble_eq_true rfl, Nat.le_of_ble_eq_true rfl⟩, (htb _ q731), (htb _ sel_M_isTired)⟩ ⟨ro_blind, va_recv (hK.sub (tys' := []) [] rfl) hP (ci := 3) (q0 := 0) rfl rfl, ro_pre hN (hP.sub (ws' := (wMS am cm P G X a cS sh)) [0, 1, 2, 3, 4, 5, 6, 7, 8, 9, 10, 11, 12, 13, 14, 15] rfl) (hK.sub (tys' := (tMS cm cS)) [0, 1, 2, 3, 4, 5, 6, 7, 8, 9, 10, 11, 12, 13, 14] rfl)⟩ rfl rfl hl.1 rfl (lv_room (Nat.le_of_ble_eq_true rfl)) d_M_wrongWith_117 ⟨Nat.le_of_ble_eq_true rfl, Nat.le_of_ble_eq_true rfl⟩) (fun r_10 hr_10 => ?_)
          subst hr_10
          refine lv_goto (tgt := 185) hx hb d_M_wrongWith_120 (by decide) ?_
          refine lv_istore (lv' := [(7, .int (nI (if breaks P (hadT sh p1 d) (sh (d * 6 + p1)) = true then 1 else 0))), (4, .int (nI last)), (6, .int (nI (sh ((d * 6) + p1)))), (0, .ref (am 0)), (1, .ref a), (2, .int (nI 2)), (3, .int (nI p1)), (5, .int (nI d))]) hx hb d_M_wrongWith_185 hl (by decide) rfl (fun ls hl => ?_)
          refine lv_iload hx hb d_M_wrongWith_187 (lv_at hl 0 rfl) ?_
          refine nr_if_eq (tgt := 205) hx hb b01_lt d_M_wrongWith_189 (by decide) (fun c_189 => ?_) (fun c_189 => ?_)
          · refine nr_iinc (k := 7) (lv' := [(5, .int (nI (d + 1))), (7, .int (nI (if breaks P (hadT sh p1 d) (sh (d * 6 + p1)) = true then 1 else 0))), (4, .int (nI last)), (6, .int (nI (sh ((d * 6) + p1)))), (0, .ref (am 0)), (1, .ref a), (2, .int (nI 2)), (3, .int (nI p1))]) hx hb d_M_wrongWith_205 hl rfl (by decide) rfl (fun ls hl => ?_)
            refine lv_goto (tgt := 73) hx hb d_M_wrongWith_208 (by decide) ?_
            exact ih_73 _ _ _ (by omega) (by rw [wr2, if_neg (b01_z c_189)] at hin; exact hin) (lv_sub hl [4, 5, 6, 7, 2, 0] rfl)
          · refine nr_bipush hx hb 100 d_M_wrongWith_192 (by decide) ?_
            refine lv_iload_n hx hb d_M_wrongWith_194 rfl (lv_at hl 5 rfl) ?_
            refine nr_imul hx hb d_M_wrongWith_195 ?_
            refine nr_bipush hx hb 10 d_M_wrongWith_196 (by decide) ?_
            refine lv_iload_n hx hb d_M_wrongWith_198 rfl (lv_at hl 6 rfl) ?_
            refine nr_imul hx hb d_M_wrongWith_199 ?_
            refine nr_top (y := nI (p1 * 10)) (congrArg nI (Nat.mul_comm _ _)) ?_
            refine nr_iadd hx hb d_M_wrongWith_200 ?_
            refine lv_iload hx hb d_M_wrongWith_201 (lv_at hl 7 rfl) ?_
            refine nr_iadd hx hb d_M_wrongWith_203 ?_
            exact W.iret (v := (nI (((100 * 2) + (p1 * 10)) + d))) hx hb hr (fun t ht hW => ⟨_, rfl, congrArg nI (by rw [wr2, if_pos (b01_nz c_189)] at hin; rw [if_neg (show ¬ 100 * 2 + 10 * p1 + d = 0 by omega)] at hin; unfold firstFault; rw [if_neg (fun h => h z1)]; rw [if_pos (show restFault P sh ≠ 0 by omega)]; omega), ht⟩) (fun q h => by cases h) d_M_wrongWith_204
        · refine lv_iload hx hb d_M_wrongWith_98 (lv_at hl 6 rfl) ?_
          refine lv_goto (tgt := 105) hx hb d_M_wrongWith_100 (by decide) ?_
          refine lv_istore (lv' := [(4, .int (nI d)), (6, .int (nI (sh ((d * 6) + p1)))), (0, .ref (am 0)), (1, .ref a), (2, .int (nI 2)), (3, .int (nI p1)), (5, .int (nI d))]) hx hb d_M_wrongWith_105 hl (by decide) rfl (fun ls hl => ?_)
          refine lv_iload_n hx hb d_M_wrongWith_107 rfl (lv_at hl 4 rfl) ?_
          refine nr_iconst hx hb 2 d_M_wrongWith_108 (by decide) ?_
          refine nr_icmp_ne (tgt := 123) hx hb (by omega) (by omega) d_M_wrongWith_109 (by decide) (fun c_109 => by exfalso; omega) (fun c_109 => ?_)
          refine lv_aload_n hx hb d_M_wrongWith_112 rfl (lv_at hl 2 rfl) ?_
          refine lv_aload_n hx hb d_M_wrongWith_113 rfl (lv_at hl 3 rfl) ?_
          refine lv_iload_n hx hb d_M_wrongWith_114 rfl (lv_at hl 5 rfl) ?_
          refine lv_iload hx hb d_M_wrongWith_115 (lv_at hl 6 rfl) ?_
          refine nr_calli (va_runV (As := [.ref a, .int (nI p1), .int (nI d)]) (rest := []) ⟨hx, hb, hml, hown, hts⟩ (c_M_isTired l D am cm P G X a cS sh hP0 hG0 hX0 hsh p1 d (by omega) (by omega)) ⟨callB_of 3 hts (gTB q_M_isTired) rfl rfl rfl (htb _ q4) (htb _ q729) hd_M_isTired ⟨Nat.le_of_ble_eq_true rfl, Nat.le_of_ble_eq_true rfl⟩, (htb _ q731), (htb _ sel_M_isTired)⟩ ⟨ro_blind, va_recv (hK.sub (tys' := []) [] rfl) hP (ci := 3) (q0 := 0) rfl rfl, ro_pre hN (hP.sub (ws' := (wMS am cm P G X a cS sh)) [0, 1, 2, 3, 4, 5, 6, 7, 8, 9, 10, 11, 12, 13, 14, 15] rfl) (hK.sub (tys' := (tMS cm cS)) [0, 1, 2, 3, 4, 5, 6, 7, 8, 9, 10, 11, 12, 13, 14] rfl)⟩ rfl rfl hl.1 rfl (lv_room (Nat.le_of_ble_eq_true rfl)) d_M_wrongWith_117 ⟨Nat.le_of_ble_eq_true rfl, Nat.le_of_ble_eq_true rfl⟩) (fun r_11 hr_11 => ?_)
          subst hr_11
          refine lv_goto (tgt := 185) hx hb d_M_wrongWith_120 (by decide) ?_
          refine lv_istore (lv' := [(7, .int (nI (if breaks P (hadT sh p1 d) (sh (d * 6 + p1)) = true then 1 else 0))), (4, .int (nI d)), (6, .int (nI (sh ((d * 6) + p1)))), (0, .ref (am 0)), (1, .ref a), (2, .int (nI 2)), (3, .int (nI p1)), (5, .int (nI d))]) hx hb d_M_wrongWith_185 hl (by decide) rfl (fun ls hl => ?_)
          refine lv_iload hx hb d_M_wrongWith_187 (lv_at hl 0 rfl) ?_
          refine nr_if_eq (tgt := 205) hx hb b01_lt d_M_wrongWith_189 (by decide) (fun c_189 => ?_) (fun c_189 => ?_)
          · refine nr_iinc (k := 7) (lv' := [(5, .int (nI (d + 1))), (7, .int (nI (if breaks P (hadT sh p1 d) (sh (d * 6 + p1)) = true then 1 else 0))), (4, .int (nI d)), (6, .int (nI (sh ((d * 6) + p1)))), (0, .ref (am 0)), (1, .ref a), (2, .int (nI 2)), (3, .int (nI p1))]) hx hb d_M_wrongWith_205 hl rfl (by decide) rfl (fun ls hl => ?_)
            refine lv_goto (tgt := 73) hx hb d_M_wrongWith_208 (by decide) ?_
            exact ih_73 _ _ _ (by omega) (by rw [wr2, if_neg (b01_z c_189)] at hin; exact hin) (lv_sub hl [4, 5, 6, 7, 2, 0] rfl)
          · refine nr_bipush hx hb 100 d_M_wrongWith_192 (by decide) ?_
            refine lv_iload_n hx hb d_M_wrongWith_194 rfl (lv_at hl 5 rfl) ?_
            refine nr_imul hx hb d_M_wrongWith_195 ?_
            refine nr_bipush hx hb 10 d_M_wrongWith_196 (by decide) ?_
            refine lv_iload_n hx hb d_M_wrongWith_198 rfl (lv_at hl 6 rfl) ?_
            refine nr_imul hx hb d_M_wrongWith_199 ?_
            refine nr_top (y := nI (p1 * 10)) (congrArg nI (Nat.mul_comm _ _)) ?_
            refine nr_iadd hx hb d_M_wrongWith_200 ?_
            refine lv_iload hx hb d_M_wrongWith_201 (lv_at hl 7 rfl) ?_
            refine nr_iadd hx hb d_M_wrongWith_203 ?_
            exact W.iret (v := (nI (((100 * 2) + (p1 * 10)) + d))) hx hb hr (fun t ht hW => ⟨_, rfl, congrArg nI (by rw [wr2, if_pos (b01_nz c_189)] at hin; rw [if_neg (show ¬ 100 * 2 + 10 * p1 + d = 0 by omega)] at hin; unfold firstFault; rw [if_neg (fun h => h z1)]; rw [if_pos (show restFault P sh ≠ 0 by omega)]; omega), ht⟩) (fun q h => by cases h) d_M_wrongWith_204
  | succ k ih_2 =>
    refine lv_iload_n hx hb d_M_wrongWith_2 rfl (lv_at hl 2 rfl) ?_
    refine lv_aload_n hx hb d_M_wrongWith_3 rfl (lv_at hl 0 rfl) ?_
    refine va_get (D := D) (ci := 3) (v := .int (nI (P 0 1))) (C := R_M) (T := F_M) (N := 26) hx hb htb u_M hown hK hP 0 rfl rfl 2 (by decide) (htb _ q581) (fun _ h9 => h9) rfl d_M_wrongWith_4 ?_
    refine nr_icmp_ge (tgt := 49) hx hb (by omega) (by omega) d_M_wrongWith_7 (by decide) (fun c_7 => by exfalso; omega) (fun c_7 => ?_)
    refine nr_iconst hx hb 1 d_M_wrongWith_10 (by decide) ?_
    refine lv_istore_n (lv' := [(3, .int (nI 1)), (0, .ref (am 0)), (1, .ref a), (2, .int (nI d))]) hx hb d_M_wrongWith_11 rfl hl (by decide) rfl (fun ls hl => ?_)
    replace hl : ∃ k2 sf : Nat, (sf + k2 = 4) ∧ (1 ≤ sf) ∧ ((if nu P sh d k2 sf = 0 then nf P sh k (d + 1) else 100 * 1 + 10 * nu P sh d k2 sf + d) = needFault P sh) ∧ lv_has ls 8 [(0, .ref (am 0)), (1, .ref a), (2, .int (nI d)), (3, .int (nI sf))] := ⟨3, 1, rfl, Nat.le_refl 1, (by rw [← hres, nf]; rfl), lv_sub hl [1, 2, 3, 0] rfl⟩
    obtain ⟨k2, sf, hks, hs1, hin, hl⟩ := hl
    induction k2 generalizing sf ls with
    | zero =>
      refine lv_iload_n hx hb d_M_wrongWith_12 rfl (lv_at hl 3 rfl) ?_
      refine nr_iconst hx hb 4 d_M_wrongWith_13 (by decide) ?_
      refine nr_icmp_ge (tgt := 43) hx hb (by omega) (by omega) d_M_wrongWith_14 (by decide) (fun c_14 => ?_) (fun c_14 => by exfalso; omega)
      refine nr_iinc (k := 2) (lv' := [(2, .int (nI (d + 1))), (0, .ref (am 0)), (1, .ref a), (3, .int (nI sf))]) hx hb d_M_wrongWith_43 hl rfl (by decide) rfl (fun ls hl => ?_)
      refine lv_goto (tgt := 2) hx hb d_M_wrongWith_46 (by decide) ?_
      exact ih_2 _ _ (by omega) (by rw [nu, if_pos rfl] at hin; exact hin) (lv_sub hl [1, 2, 0] rfl)
    | succ k2 ih_12 =>
      refine lv_iload_n hx hb d_M_wrongWith_12 rfl (lv_at hl 3 rfl) ?_
      refine nr_iconst hx hb 4 d_M_wrongWith_13 (by decide) ?_
      refine nr_icmp_ge (tgt := 43) hx hb (by omega) (by omega) d_M_wrongWith_14 (by decide) (fun c_14 => by exfalso; omega) (fun c_14 => ?_)
      refine lv_aload_n hx hb d_M_wrongWith_17 rfl (lv_at hl 0 rfl) ?_
      refine lv_aload_n hx hb d_M_wrongWith_18 rfl (lv_at hl 1 rfl) ?_
      refine lv_iload_n hx hb d_M_wrongWith_19 rfl (lv_at hl 2 rfl) ?_
      refine lv_iload_n hx hb d_M_wrongWith_20 rfl (lv_at hl 3 rfl) ?_
      refine nr_calli (va_runV (As := [.ref a, .int (nI d), .int (nI sf)]) (rest := []) ⟨hx, hb, hml, hown, hts⟩ (c_M_isMet l D am cm P G X a cS sh hP0 hG0 hX0 hsh d sf (by omega) (by omega)) ⟨callB_of 3 hts (gTB q_M_isMet) rfl rfl rfl (htb _ q4) (htb _ q717) hd_M_isMet ⟨Nat.le_of_ble_eq_true rfl, Nat.le_of_ble_eq_true rfl⟩, (htb _ q719), (htb _ sel_M_isMet)⟩ ⟨ro_blind, va_recv (hK.sub (tys' := []) [] rfl) hP (ci := 3) (q0 := 0) rfl rfl, ro_pre hN (hP.sub (ws' := (wMS am cm P G X a cS sh)) [0, 1, 2, 3, 4, 5, 6, 7, 8, 9, 10, 11, 12, 13, 14, 15] rfl) (hK.sub (tys' := (tMS cm cS)) [0, 1, 2, 3, 4, 5, 6, 7, 8, 9, 10, 11, 12, 13, 14] rfl)⟩ rfl rfl hl.1 rfl (lv_room (Nat.le_of_ble_eq_true rfl)) d_M_wrongWith_21 ⟨Nat.le_of_ble_eq_true rfl, Nat.le_of_ble_eq_true rfl⟩) (fun r_12 hr_12 => ?_)
      subst hr_12
      refine nr_if_ne (tgt := 37) hx hb b01_lt d_M_wrongWith_24 (by decide) (fun c_24 => ?_) (fun c_24 => ?_)
      · refine nr_iinc (k := 3) (lv' := [(3, .int (nI (sf + 1))), (0, .ref (am 0)), (1, .ref a), (2, .int (nI d))]) hx hb d_M_wrongWith_37 hl rfl (by decide) rfl (fun ls hl => ?_)
        refine lv_goto (tgt := 12) hx hb d_M_wrongWith_40 (by decide) ?_
        exact ih_12 _ _ (by omega) (by omega) (by rw [nu, if_pos (b01_nz c_24)] at hin; exact hin) (lv_sub hl [1, 2, 3, 0] rfl)
      · refine nr_bipush hx hb 100 d_M_wrongWith_27 (by decide) ?_
        refine nr_bipush hx hb 10 d_M_wrongWith_29 (by decide) ?_
        refine lv_iload_n hx hb d_M_wrongWith_31 rfl (lv_at hl 3 rfl) ?_
        refine nr_imul hx hb d_M_wrongWith_32 ?_
        refine nr_top (y := nI (sf * 10)) (congrArg nI (Nat.mul_comm _ _)) ?_
        refine nr_iadd hx hb d_M_wrongWith_33 ?_
        refine lv_iload_n hx hb d_M_wrongWith_34 rfl (lv_at hl 2 rfl) ?_
        refine nr_iadd hx hb d_M_wrongWith_35 ?_
        exact W.iret (v := (nI ((100 + (sf * 10)) + d))) hx hb hr (fun t ht hW => ⟨_, rfl, congrArg nI (by rw [nu, if_neg (b01_z c_24)] at hin; rw [if_neg (show ¬ sf = 0 by omega)] at hin; unfold firstFault; rw [if_pos (show needFault P sh ≠ 0 by omega)]; omega), ht⟩) (fun q h => by cases h) d_M_wrongWith_36

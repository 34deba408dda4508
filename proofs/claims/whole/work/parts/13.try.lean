def snT (S : Nat → Nat → Nat) (p d : Nat) : Nat → Nat → Nat := up2 (up2 (up2 S 3 (d * 6 + p) (S 3 (d * 6 + p) + 1)) 0 2 (S 0 2 + 1)) 2 (d * 6 + p) (S 3 (d * 6 + p))
def snG (P S : Nat → Nat → Nat) (p d : Nat) : Bool := krB P (snT S p d) p d (S 3 (d * 6 + p)) && decide (P 5 ((d * 6 + p) * 4 + S 3 (d * 6 + p)) = 0)
def snS (P S : Nat → Nat → Nat) (p d : Nat) : Nat → Nat → Nat := if snG P S p d = true then sbS P (krS (snT S p d) p d (S 3 (d * 6 + p))) p d (S 3 (d * 6 + p)) else krS (snT S p d) p d (S 3 (d * 6 + p))
def snB (P S : Nat → Nat → Nat) (p d : Nat) : Bool := snG P S p d && (sbB P (krS (snT S p d) p d (S 3 (d * 6 + p))) p d (S 3 (d * 6 + p)) && (decide (p < P 0 0 - 1) || decide (needUnmet P (sbS P (krS (snT S p d) p d (S 3 (d * 6 + p))) p d (S 3 (d * 6 + p)) 2) d = 0)))
def ktS (S : Nat → Nat → Nat) (x : Nat) : Nat → Nat → Nat := up2 (up2 (upr S 1 (S 2)) 0 4 x) 0 3 (S 0 3 + 1)
def toS (P S : Nat → Nat → Nat) : Nat → Nat → Nat := if needFault P (S 2) = 0 then ktS S 0 else S
theorem okS_2 {S : Nat → Nat → Nat} (h : okS S) : ∀ k, S 2 k ≤ 3 := h.2.2.2.2.2.2.2.2.1
theorem up2_le {S : Nat → Nat → Nat} {a i x r : Nat} {b : Nat → Nat} (h : ∀ k, S r k ≤ b k) (hx : r = a → x ≤ b i) : ∀ k, up2 S a i x r k ≤ b k := by
  intro k
  unfold up2
  split
  · split
    · rename_i h1 h2; rw [h2]; exact hx h1
    · exact h k
  · exact h k
theorem ok_snT {S : Nat → Nat → Nat} {p d : Nat} (h : okS S) (h3 : S 3 (d * 6 + p) ≤ 3) (hst : S 0 2 < 20000) : okS (snT S p d) := by
  obtain ⟨g00, g01, g02, g03, g04, g05, g06, hs1, hs2, hs3, hs4, hs5, hs6, hs7⟩ := h
  refine ⟨g00, g01, ?_, g03, g04, g05, g06, hs1, ?_, ?_, hs4, hs5, hs6, hs7⟩
  · show S 0 2 + 1 ≤ 40000
    omega
  · exact up2_le (b := fun _ => 3) (fun k => hs2 k) (fun _ => h3)
  · intro k
    show (if k = d * 6 + p then S 3 (d * 6 + p) + 1 else S 3 k) ≤ 4
    have := hs3 k
    split <;> omega
theorem ok_krS {S : Nat → Nat → Nat} {p d s : Nat} (h : okS S) (hp : p < 6) (hd : d < 7) : okS (krS S p d s) := by
  obtain ⟨g00, g01, g02, g03, g04, g05, g06, hs1, hs2, hs3, hs4, hs5, hs6, hs7⟩ := h
  refine ⟨g00, g01, g02, g03, g04, g05, g06, hs1, hs2, hs3, hs4, ?_, ?_, hs7⟩
  · intro k
    show (if k = d * 6 + p then (if s = 0 then hadB S 5 p d else hadB S 5 p d + 1) else S 5 k) ≤ k + 1
    have := hs5 ((d - 1) * 6 + p)
    have := hs5 k
    have hh : hadB S 5 p d ≤ d * 6 + p := by unfold hadB; split <;> omega
    split
    · split <;> omega
    · omega
  · intro k
    show (if k = d * 6 + p then (if s = 3 then hadB S 6 p d + 1 else 0) else S 6 k) ≤ k + 1
    have := hs6 ((d - 1) * 6 + p)
    have := hs6 k
    have hh : hadB S 6 p d ≤ d * 6 + p := by unfold hadB; split <;> omega
    split
    · split <;> omega
    · omega
theorem ok_sbS {P S : Nat → Nat → Nat} {p d s : Nat} (hP : okP P) (h : okS S) (hp : p < P 0 0) (hd : d < 7) : okS (sbS P S p d s) := by
  have hu := ubef_le (P := P) h hP.1 p d hp hd
  have h6 := hP.2.2.2.2.2.2.2.2.2.2.2 ((d * 6 + p) * 4 + s)
  obtain ⟨g00, g01, g02, g03, g04, g05, g06, hs1, hs2, hs3, hs4, hs5, hs6, hs7⟩ := h
  refine ⟨g00, g01, g02, g03, g04, g05, g06, hs1, hs2, hs3, hs4, hs5, hs6, ?_⟩
  exact up2_le (S := S) (b := fun k => 2000 * (k + 1)) hs7 (fun _ => by omega)
set_option maxHeartbeats 4000000 in
set_option maxRecDepth 100000 in
theorem c_S_standsNext (l : Launch) (D : va_G) (ad : Nat → Nat) (ca : Nat → ClassId) (P S : Nat → Nat → Nat) (a : Nat) (cS : ClassId) (ro : Nat → Nat) (hP0 : okP P) (hS0 : okS S) (hro : ∀ k, ro k ≤ 3) (p1 d : Nat) (hp : p1 < P 0 0) (hd : d < 7) (h3 : S 3 (d * 6 + p1) ≤ 3) (hst : S 0 2 < 20000) (sz : Nat) : Met l y_S_standsNext w_S_standsNext { frames := 3, cells := 0, slots := 0, locals := 71 } (rw_P [.ref (ad 2), .int (nI p1), .int (nI d)] D (wSP ad ca P S a cS ro) (tSP ca cS) sz) (rw_Qi (fun (r : Int32) (u : Unit) => r = nI (if snB P S p1 d = true then 1 else 0)) D (wSP ad ca P S a cS ro) (fun u => wSP ad ca P (snS P S p1 d) a cS ro) sz) 0 0 (va_A (wSP ad ca P S a cS ro) sz) := by
  refine Met.ofW (cc := b_S_standsNext) (maxL := 5) (ret := (some .boolean)) (by decide) rfl ?_
  intro p e s m args below meth c s₁ B hml hv
  obtain ⟨rfl, hsz, hN, hP, hK, hD0⟩ := hv
  have hx := B.exec
  have hb := B.bytes
  have hr := B.returns
  have hts := atoms_spec (ws := w_S_standsNext) B.pre
  have htb : ∀ w ∈ TBG, w.before [.ref (ad 2), .int (nI p1), .int (nI d)].toArray s = true := fun w h => hts w (List.mem_cons_of_mem _ h)
  have hown : s.vm.findClass R_S = some m.cls := findClass_of_methodNamed B.named
  have hlocks := B.notSynchronized
  subst hsz
  have hD := hD0.self (sz := s.heap.size)
  unfold rw_Qi
  generalize hAe : va_A (wSP ad ca P S a cS ro) s.heap.size = A at hD ⊢
  have hA : ∀ q : Nat, s.heap.size ≤ q → A q := fun q h => by rw [← hAe]; exact Or.inr h
  have hS : va_S A s.heap s.heap [] := va_S.rf
  have hl := lv_entry ([.ref (ad 2), .int (nI p1), .int (nI d)]) (n := 5) (Nat.le_of_ble_eq_true rfl)
  rw [lg_entry_eq]
  generalize (lg_sl ([.ref (ad 2), .int (nI p1), .int (nI d)]) ++ List.replicate (5 - (lg_sl ([.ref (ad 2), .int (nI p1), .int (nI d)])).length) Slot.unset).toArray = ls at hl ⊢
  have hl : lv_has ls 5 [(0, .ref (ad 2)), (1, .int (nI p1)), (2, .int (nI d))] := hl
  refine nr_start hP hS (fun H locs hP hS => ?_)
  obtain ⟨h00, h01, h02, h03, h04, h05, hp1, hp2, hp3, hp4, hp5, hp6⟩ := id hP0
  obtain ⟨g00, g01, g02, g03, g04, g05, g06, hs1, hs2, hs3, hs4, hs5, hs6, hs7⟩ := id hS0
  have hp6 : p1 < 6 := by omega
  refine lv_iload_n hx hb d_S_standsNext_0 rfl (lv_at hl 1 rfl) ?_
  refine lv_iload_n hx hb d_S_standsNext_1 rfl (lv_at hl 2 rfl) ?_
  refine nr_calli (va_runSN (As := [.int (nI p1), .int (nI d)]) (rest := []) ⟨hx, hb, hml, hown, hts⟩ (c_R_cell l D p1 d) ⟨va_cnB 2 hts (gTB q_R_cell) rfl rfl rfl (hN.nw q489 rfl) (htb _ q1) hd_R_cell ⟨Nat.le_of_ble_eq_true rfl, Nat.le_of_ble_eq_true rfl⟩, (htb _ q174), trivial⟩ ⟨ro_blind, ro_pre hN (hP.sub (ws' := []) [] rfl) (hK.sub (tys' := []) [] rfl)⟩ rfl rfl hl.1 rfl (lv_room (Nat.le_of_ble_eq_true rfl)) d_S_standsNext_2 ⟨Nat.le_of_ble_eq_true rfl, Nat.le_of_ble_eq_true rfl⟩) (fun r_1 hr_1 => ?_)
  subst hr_1
  refine lv_istore_n (lv' := [(3, .int (nI (d * 6 + p1))), (0, .ref (ad 2)), (1, .int (nI p1)), (2, .int (nI d))]) hx hb d_S_standsNext_5 rfl hl (by decide) rfl (fun ls hl => ?_)
  refine lv_aload_n hx hb d_S_standsNext_6 rfl (lv_at hl 1 rfl) ?_
  refine va_get (D := D) (ci := 1) (v := .ref (ad 11)) (C := R_S) (T := F_S) (N := 15) hx hb htb u_S hown hK hP 7 rfl rfl 3 (by decide) (htb _ q87) (fun _ h9 => h9) rfl d_S_standsNext_7 ?_
  refine lv_iload_n hx hb d_S_standsNext_10 rfl (lv_at hl 0 rfl) ?_
  refine nr_iald hx hb hK hP 10 8 rfl rfl (by omega) (by decide) d_S_standsNext_11 ?_
  refine lv_istore (lv' := [(4, .int (nI (S 3 (d * 6 + p1)))), (3, .int (nI (d * 6 + p1))), (0, .ref (ad 2)), (1, .int (nI p1)), (2, .int (nI d))]) hx hb d_S_standsNext_12 hl (by decide) rfl (fun ls hl => ?_)
  refine lv_aload_n hx hb d_S_standsNext_14 rfl (lv_at hl 2 rfl) ?_
  refine va_get (D := D) (ci := 1) (v := .ref (ad 11)) (C := R_S) (T := F_S) (N := 15) hx hb htb u_S hown hK hP 7 rfl rfl 3 (by decide) (htb _ q87) (fun _ h9 => h9) rfl d_S_standsNext_15 ?_
  refine lv_iload_n hx hb d_S_standsNext_18 rfl (lv_at hl 1 rfl) ?_
  refine lv_dup2_11 hx hb d_S_standsNext_19 rfl rfl ?_
  refine nr_iald hx hb hK hP 10 8 rfl rfl (by omega) (by decide) d_S_standsNext_20 ?_
  refine nr_iconst hx hb 1 d_S_standsNext_21 (by decide) ?_
  refine nr_iadd hx hb d_S_standsNext_22 ?_
  refine nr_iast hx hb hK hP hD hS 10 8 rfl rfl (by omega) (by decide) d_S_standsNext_23 (fun H locs hP hD hS => ?_)
  have hP : va_P D cls (wSP ad ca P (up2 S 3 (d * 6 + p1) ((S 3 (d * 6 + p1)) + 1)) a cS ro) H := hP
  have hD : va_D A (wSP ad ca P (up2 S 3 (d * 6 + p1) ((S 3 (d * 6 + p1)) + 1)) a cS ro) := hD
  refine lv_aload_n hx hb d_S_standsNext_24 rfl (lv_at hl 2 rfl) ?_
  refine lv_dup hx hb d_S_standsNext_25 rfl ?_
  refine va_get (D := D) (ci := 1) (v := .int (nI (S 0 2))) (C := R_S) (T := F_S) (N := 15) hx hb htb u_S hown hK hP 7 rfl rfl 10 (by decide) (htb _ q94) (fun _ h9 => h9) rfl d_S_standsNext_26 ?_
  refine nr_iconst hx hb 1 d_S_standsNext_29 (by decide) ?_
  refine nr_iadd hx hb d_S_standsNext_30 ?_
  refine va_put (D := D) (ci := 1) (v := .int (nI ((S 0 2) + 1))) (ty := .int) (C := R_S) (T := F_S) (N := 15) hx hb htb u_S t_S t_S_ok n_S hown hK hP hD hS 7 rfl rfl 10 (by decide) (htb _ q94) (fun _ h9 => h9) rfl (by decide +kernel) rfl rfl (Nat.le_of_ble_eq_true rfl) d_S_standsNext_31 (fun H locs hP hD hS => ?_)
  have hP : va_P D cls (wSP ad ca P (up2 (up2 S 3 (d * 6 + p1) ((S 3 (d * 6 + p1)) + 1)) 0 2 ((S 0 2) + 1)) a cS ro) H := hP
  have hD : va_D A (wSP ad ca P (up2 (up2 S 3 (d * 6 + p1) ((S 3 (d * 6 + p1)) + 1)) 0 2 ((S 0 2) + 1)) a cS ro) := hD
  refine lv_aload_n hx hb d_S_standsNext_34 rfl (lv_at hl 2 rfl) ?_
  refine va_get (D := D) (ci := 1) (v := .ref (ad 10)) (C := R_S) (T := F_S) (N := 15) hx hb htb u_S hown hK hP 7 rfl rfl 2 (by decide) (htb _ q86) (fun _ h9 => h9) rfl d_S_standsNext_35 ?_
  refine lv_iload_n hx hb d_S_standsNext_38 rfl (lv_at hl 1 rfl) ?_
  refine lv_iload hx hb d_S_standsNext_39 (lv_at hl 0 rfl) ?_
  refine nr_iast hx hb hK hP hD hS 9 7 rfl rfl (by omega) (by decide) d_S_standsNext_41 (fun H locs hP hD hS => ?_)
  have hP : va_P D cls (wSP ad ca P (up2 (up2 (up2 S 3 (d * 6 + p1) ((S 3 (d * 6 + p1)) + 1)) 0 2 ((S 0 2) + 1)) 2 (d * 6 + p1) (S 3 (d * 6 + p1))) a cS ro) H := hP
  have hD : va_D A (wSP ad ca P (up2 (up2 (up2 S 3 (d * 6 + p1) ((S 3 (d * 6 + p1)) + 1)) 0 2 ((S 0 2) + 1)) 2 (d * 6 + p1) (S 3 (d * 6 + p1))) a cS ro) := hD
  have hfold : up2 (up2 (up2 S 3 (d * 6 + p1) ((S 3 (d * 6 + p1)) + 1)) 0 2 ((S 0 2) + 1)) 2 (d * 6 + p1) (S 3 (d * 6 + p1)) = snT S p1 d := rfl
  rw [hfold] at hP hD
  refine lv_aload_n hx hb d_S_standsNext_42 rfl (lv_at hl 2 rfl) ?_
  refine lv_iload_n hx hb d_S_standsNext_43 rfl (lv_at hl 3 rfl) ?_
  refine lv_iload_n hx hb d_S_standsNext_44 rfl (lv_at hl 4 rfl) ?_
  refine lv_iload hx hb d_S_standsNext_45 (lv_at hl 0 rfl) ?_
  have hcurS : okS (snT S p1 d) := (ok_snT hS0 h3 hst)
  refine nr_callwi (wr := ([] : va_W)) (va_runV (As := [.int (nI p1), .int (nI d), .int (nI (S 3 (d * 6 + p1)))]) (rest := []) ⟨hx, hb, hml, hown, hts⟩ (c_S_keepsRules l D ad ca P (snT S p1 d) a cS ro hP0 hcurS hro p1 d (S 3 (d * 6 + p1)) (by omega) (by omega) (by omega) H.size) ⟨callB_of 3 hts (gTB q_S_keepsRules) rfl rfl rfl (htb _ q3) (htb _ q495) hd_S_keepsRules ⟨Nat.le_of_ble_eq_true rfl, Nat.le_of_ble_eq_true rfl⟩, (htb _ q497), (htb _ sel_S_keepsRules)⟩ ⟨rw_blind, va_recv (hK.sub (tys' := []) [] rfl) hP (ci := 1) (q0 := 7) rfl rfl, rw_pre hN (hP.sub (ws' := (wSP ad ca P (snT S p1 d) a cS ro)) [0, 1, 2, 3, 4, 5, 6, 7, 8, 9, 10, 11, 12, 13, 14, 15] rfl) (hK.sub (tys' := (tSP ca cS)) [0, 1, 2, 3, 4, 5, 6, 7, 8, 9, 10, 11, 12, 13] rfl) (hD.sub (ws' := (wSP ad ca P (snT S p1 d) a cS ro)) [0, 1, 2, 3, 4, 5, 6, 7, 8, 9, 10, 11, 12, 13, 14, 15] (by decide) rfl)⟩ rfl rfl hl.1 rfl (lv_room (Nat.le_of_ble_eq_true rfl)) d_S_standsNext_47 ⟨Nat.le_of_ble_eq_true rfl, Nat.le_of_ble_eq_true rfl⟩) hP hD hS hA [0, 1, 2, 3, 4, 5, 6, 7, 8, 9, 10, 11, 12, 13, 14, 15] [] rfl rfl (by decide) (by decide) (fun r_2 u_2 H locs hr_2 hP hD hS => ?_)
  subst hr_2
  replace hP := hP.sub (ws' := wSP ad ca P (krS (snT S p1 d) p1 d (S 3 (d * 6 + p1))) a cS ro) [0, 1, 2, 3, 4, 5, 6, 7, 8, 9, 10, 11, 12, 13, 14, 15] rfl
  replace hD := hD.sub (ws' := wSP ad ca P (krS (snT S p1 d) p1 d (S 3 (d * 6 + p1))) a cS ro) [0, 1, 2, 3, 4, 5, 6, 7, 8, 9, 10, 11, 12, 13, 14, 15] (by decide) rfl
  refine nr_if_eq (tgt := 114) hx hb b01_lt d_S_standsNext_50 (by decide) (fun c_50 => ?_) (fun c_50 => ?_)
  · refine nr_iconst hx hb 0 d_S_standsNext_114 (by decide) ?_
    have hG : snG P S p1 d = false := by unfold snG; rw [b01_f c_50]; rfl
    have hfin : snS P S p1 d = krS (snT S p1 d) p1 d (S 3 (d * 6 + p1)) := by unfold snS; rw [hG]; rfl
    rw [← hfin] at hP hD
    exact W.zret (v := (nI 0)) hx hb hr rfl (fun t ht hW => ⟨⟨_, (), rfl, by unfold snB; rw [hG]; rfl, by rw [ht]; exact hP, hD⟩, hS.F ht⟩) hS.2.2 d_S_standsNext_115
  · refine lv_aload_n hx hb d_S_standsNext_53 rfl (lv_at hl 2 rfl) ?_
    refine va_get (D := D) (ci := 1) (v := .ref (ad 1)) (C := R_S) (T := F_S) (N := 15) hx hb htb u_S hown hK hP 7 rfl rfl 0 (by decide) (htb _ q83) (fun _ h9 => h9) rfl d_S_standsNext_54 ?_
    refine va_getN (D := D) (ci := 0) (v := .ref (ad 7)) (C := R_P) (T := F_P) (N := 12) hx hb htb u_P hown hK hP 0 rfl rfl 10 (by decide) (hN.at q47 rfl rfl) (fun _ h9 => h9) rfl d_S_standsNext_57 ?_
    refine lv_iload_n hx hb d_S_standsNext_60 rfl (lv_at hl 3 rfl) ?_
    refine lv_iload_n hx hb d_S_standsNext_61 rfl (lv_at hl 4 rfl) ?_
    refine lv_iload hx hb d_S_standsNext_62 (lv_at hl 0 rfl) ?_
    refine nr_calli (va_runSN (As := [.int (nI p1), .int (nI d), .int (nI (S 3 (d * 6 + p1)))]) (rest := [.ref (ad 7)]) ⟨hx, hb, hml, hown, hts⟩ (c_R_choice l D p1 d (S 3 (d * 6 + p1))) ⟨va_cnB 3 hts (gTB q_R_choice) rfl rfl rfl (hN.nw q500 rfl) (htb _ q1) hd_R_choice ⟨Nat.le_of_ble_eq_true rfl, Nat.le_of_ble_eq_true rfl⟩, (htb _ q206), trivial⟩ ⟨ro_blind, ro_pre hN (hP.sub (ws' := []) [] rfl) (hK.sub (tys' := []) [] rfl)⟩ rfl rfl hl.1 rfl (lv_room (Nat.le_of_ble_eq_true rfl)) d_S_standsNext_64 ⟨Nat.le_of_ble_eq_true rfl, Nat.le_of_ble_eq_true rfl⟩) (fun r_3 hr_3 => ?_)
    subst hr_3
    refine nr_zald hx hb hK hP 5 4 rfl rfl (by omega) (by decide) d_S_standsNext_67 ?_
    have hv_4 := hp5 ((d * 6 + p1) * 4 + (S 3 (d * 6 + p1)))
    refine nr_if_ne (tgt := 114) hx hb (by omega) d_S_standsNext_68 (by decide) (fun c_68 => ?_) (fun c_68 => ?_)
    · refine nr_iconst hx hb 0 d_S_standsNext_114 (by decide) ?_
      have hG : snG P S p1 d = false := by unfold snG; rw [b01_nz c_50, decide_eq_false c_68]; rfl
      have hfin : snS P S p1 d = krS (snT S p1 d) p1 d (S 3 (d * 6 + p1)) := by unfold snS; rw [hG]; rfl
      rw [← hfin] at hP hD
      exact W.zret (v := (nI 0)) hx hb hr rfl (fun t ht hW => ⟨⟨_, (), rfl, by unfold snB; rw [hG]; rfl, by rw [ht]; exact hP, hD⟩, hS.F ht⟩) hS.2.2 d_S_standsNext_115
    · refine lv_aload_n hx hb d_S_standsNext_71 rfl (lv_at hl 2 rfl) ?_
      refine lv_iload_n hx hb d_S_standsNext_72 rfl (lv_at hl 3 rfl) ?_
      refine lv_iload_n hx hb d_S_standsNext_73 rfl (lv_at hl 4 rfl) ?_
      refine lv_iload hx hb d_S_standsNext_74 (lv_at hl 0 rfl) ?_
      have hcurS : okS (krS (snT S p1 d) p1 d (S 3 (d * 6 + p1))) := (ok_krS (ok_snT hS0 h3 hst) hp6 hd)
      refine nr_callwi (wr := ([] : va_W)) (va_runV (As := [.int (nI p1), .int (nI d), .int (nI (S 3 (d * 6 + p1)))]) (rest := []) ⟨hx, hb, hml, hown, hts⟩ (c_S_staysBelowBest l D ad ca P (krS (snT S p1 d) p1 d (S 3 (d * 6 + p1))) a cS ro hP0 hcurS hro p1 d (S 3 (d * 6 + p1)) (by omega) (by omega) (by omega) H.size) ⟨callB_of 3 hts (gTB q_S_staysBelowBest) rfl rfl rfl (htb _ q3) (htb _ q501) hd_S_staysBelowBest ⟨Nat.le_of_ble_eq_true rfl, Nat.le_of_ble_eq_true rfl⟩, (htb _ q503), (htb _ sel_S_staysBelowBest)⟩ ⟨rw_blind, va_recv (hK.sub (tys' := []) [] rfl) hP (ci := 1) (q0 := 7) rfl rfl, rw_pre hN (hP.sub (ws' := (wSP ad ca P (krS (snT S p1 d) p1 d (S 3 (d * 6 + p1))) a cS ro)) [0, 1, 2, 3, 4, 5, 6, 7, 8, 9, 10, 11, 12, 13, 14, 15] rfl) (hK.sub (tys' := (tSP ca cS)) [0, 1, 2, 3, 4, 5, 6, 7, 8, 9, 10, 11, 12, 13] rfl) (hD.sub (ws' := (wSP ad ca P (krS (snT S p1 d) p1 d (S 3 (d * 6 + p1))) a cS ro)) [0, 1, 2, 3, 4, 5, 6, 7, 8, 9, 10, 11, 12, 13, 14, 15] (by decide) rfl)⟩ rfl rfl hl.1 rfl (lv_room (Nat.le_of_ble_eq_true rfl)) d_S_standsNext_76 ⟨Nat.le_of_ble_eq_true rfl, Nat.le_of_ble_eq_true rfl⟩) hP hD hS hA [0, 1, 2, 3, 4, 5, 6, 7, 8, 9, 10, 11, 12, 13, 14, 15] [] rfl rfl (by decide) (by decide) (fun r_5 u_5 H locs hr_5 hP hD hS => ?_)
      subst hr_5
      replace hP := hP.sub (ws' := wSP ad ca P (sbS P (krS (snT S p1 d) p1 d (S 3 (d * 6 + p1))) p1 d (S 3 (d * 6 + p1))) a cS ro) [0, 1, 2, 3, 4, 5, 6, 7, 8, 9, 10, 11, 12, 13, 14, 15] rfl
      replace hD := hD.sub (ws' := wSP ad ca P (sbS P (krS (snT S p1 d) p1 d (S 3 (d * 6 + p1))) p1 d (S 3 (d * 6 + p1))) a cS ro) [0, 1, 2, 3, 4, 5, 6, 7, 8, 9, 10, 11, 12, 13, 14, 15] (by decide) rfl
      refine nr_if_eq (tgt := 114) hx hb b01_lt d_S_standsNext_79 (by decide) (fun c_79 => ?_) (fun c_79 => ?_)
      · refine nr_iconst hx hb 0 d_S_standsNext_114 (by decide) ?_
        have hG : snG P S p1 d = true := by unfold snG; rw [b01_nz c_50, decide_eq_true c_68]; rfl
        have hfin : snS P S p1 d = sbS P (krS (snT S p1 d) p1 d (S 3 (d * 6 + p1))) p1 d (S 3 (d * 6 + p1)) := by unfold snS; rw [hG]; rfl
        rw [← hfin] at hP hD
        exact W.zret (v := (nI 0)) hx hb hr rfl (fun t ht hW => ⟨⟨_, (), rfl, by unfold snB; rw [hG, b01_f c_79]; rfl, by rw [ht]; exact hP, hD⟩, hS.F ht⟩) hS.2.2 d_S_standsNext_115
      · refine lv_iload_n hx hb d_S_standsNext_82 rfl (lv_at hl 3 rfl) ?_
        refine lv_aload_n hx hb d_S_standsNext_83 rfl (lv_at hl 2 rfl) ?_
        refine va_get (D := D) (ci := 1) (v := .ref (ad 1)) (C := R_S) (T := F_S) (N := 15) hx hb htb u_S hown hK hP 7 rfl rfl 0 (by decide) (htb _ q83) (fun _ h9 => h9) rfl d_S_standsNext_84 ?_
        refine va_getN (D := D) (ci := 0) (v := .int (nI (P 0 0))) (C := R_P) (T := F_P) (N := 12) hx hb htb u_P hown hK hP 0 rfl rfl 0 (by decide) (hN.at q29 rfl rfl) (fun _ h9 => h9) rfl d_S_standsNext_87 ?_
        refine nr_iconst hx hb 1 d_S_standsNext_90 (by decide) ?_
        refine nr_isub hx hb (by omega) d_S_standsNext_91 ?_
        refine nr_icmp_lt (tgt := 110) hx hb (by omega) (by omega) d_S_standsNext_92 (by decide) (fun c_92 => ?_) (fun c_92 => ?_)
        · refine nr_iconst hx hb 1 d_S_standsNext_110 (by decide) ?_
          refine lv_goto (tgt := 115) hx hb d_S_standsNext_111 (by decide) ?_
          have hG : snG P S p1 d = true := by unfold snG; rw [b01_nz c_50, decide_eq_true c_68]; rfl
          have hfin : snS P S p1 d = sbS P (krS (snT S p1 d) p1 d (S 3 (d * 6 + p1))) p1 d (S 3 (d * 6 + p1)) := by unfold snS; rw [hG]; rfl
          rw [← hfin] at hP hD
          exact W.zret (v := (nI 1)) hx hb hr rfl (fun t ht hW => ⟨⟨_, (), rfl, by unfold snB; rw [hG, b01_nz c_79, decide_eq_true c_92]; rfl, by rw [ht]; exact hP, hD⟩, hS.F ht⟩) hS.2.2 d_S_standsNext_115
        · refine lv_aload_n hx hb d_S_standsNext_95 rfl (lv_at hl 2 rfl) ?_
          refine va_get (D := D) (ci := 1) (v := .ref (ad 1)) (C := R_S) (T := F_S) (N := 15) hx hb htb u_S hown hK hP 7 rfl rfl 0 (by decide) (htb _ q83) (fun _ h9 => h9) rfl d_S_standsNext_96 ?_
          refine lv_aload_n hx hb d_S_standsNext_99 rfl (lv_at hl 2 rfl) ?_
          refine va_get (D := D) (ci := 1) (v := .ref (ad 10)) (C := R_S) (T := F_S) (N := 15) hx hb htb u_S hown hK hP 7 rfl rfl 2 (by decide) (htb _ q86) (fun _ h9 => h9) rfl d_S_standsNext_100 ?_
          refine lv_iload_n hx hb d_S_standsNext_103 rfl (lv_at hl 4 rfl) ?_
          have hcur2 : ∀ k, (sbS P (krS (snT S p1 d) p1 d (S 3 (d * 6 + p1))) p1 d (S 3 (d * 6 + p1))) 2 k ≤ 3 := okS_2 (ok_sbS hP0 (ok_krS (ok_snT hS0 h3 hst) hp6 hd) hp hd)
          refine nr_calli (va_runVN (As := [.ref (ad 10), .int (nI d)]) (rest := []) ⟨hx, hb, hml, hown, hts⟩ (c_P_firstNeedUnmet l D ad ca P (ad 10) (ca 7) ((sbS P (krS (snT S p1 d) p1 d (S 3 (d * 6 + p1))) p1 d (S 3 (d * 6 + p1))) 2) hP0 hcur2 d (by omega)) ⟨va_cnB 2 hts (gTB q_P_firstNeedUnmet) rfl rfl rfl (hN.nw q509 rfl) (htb _ q2) hd_P_firstNeedUnmet ⟨Nat.le_of_ble_eq_true rfl, Nat.le_of_ble_eq_true rfl⟩, (htb _ q167), (htb _ sel_P_firstNeedUnmet)⟩ ⟨ro_blind, va_recv (hK.sub (tys' := []) [] rfl) hP (ci := 0) (q0 := 0) rfl rfl, ro_pre hN (hP.sub (ws' := (wPS ad ca P (ad 10) (ca 7) ((sbS P (krS (snT S p1 d) p1 d (S 3 (d * 6 + p1))) p1 d (S 3 (d * 6 + p1))) 2))) [0, 1, 2, 3, 4, 5, 6, 9] rfl) (hK.sub (tys' := (tPS ca (ca 7))) [0, 1, 2, 3, 4, 5, 7] rfl)⟩ rfl rfl hl.1 rfl (lv_room (Nat.le_of_ble_eq_true rfl)) d_S_standsNext_104 ⟨Nat.le_of_ble_eq_true rfl, Nat.le_of_ble_eq_true rfl⟩) (fun r_6 hr_6 => ?_)
          subst hr_6
          refine nr_if_ne (tgt := 114) hx hb (Nat.lt_of_le_of_lt (needUnmet_le _ _ _) (by decide)) d_S_standsNext_107 (by decide) (fun c_107 => ?_) (fun c_107 => ?_)
          · refine nr_iconst hx hb 0 d_S_standsNext_114 (by decide) ?_
            have hG : snG P S p1 d = true := by unfold snG; rw [b01_nz c_50, decide_eq_true c_68]; rfl
            have hfin : snS P S p1 d = sbS P (krS (snT S p1 d) p1 d (S 3 (d * 6 + p1))) p1 d (S 3 (d * 6 + p1)) := by unfold snS; rw [hG]; rfl
            rw [← hfin] at hP hD
            exact W.zret (v := (nI 0)) hx hb hr rfl (fun t ht hW => ⟨⟨_, (), rfl, by unfold snB; rw [hG, b01_nz c_79, decide_eq_false (show ¬ p1 < P 0 0 - 1 by omega), decide_eq_false c_107]; rfl, by rw [ht]; exact hP, hD⟩, hS.F ht⟩) hS.2.2 d_S_standsNext_115
          · refine nr_iconst hx hb 1 d_S_standsNext_110 (by decide) ?_
            refine lv_goto (tgt := 115) hx hb d_S_standsNext_111 (by decide) ?_
            have hG : snG P S p1 d = true := by unfold snG; rw [b01_nz c_50, decide_eq_true c_68]; rfl
            have hfin : snS P S p1 d = sbS P (krS (snT S p1 d) p1 d (S 3 (d * 6 + p1))) p1 d (S 3 (d * 6 + p1)) := by unfold snS; rw [hG]; rfl
            rw [← hfin] at hP hD
            exact W.zret (v := (nI 1)) hx hb hr rfl (fun t ht hW => ⟨⟨_, (), rfl, by unfold snB; rw [hG, b01_nz c_79, decide_eq_true c_107]; simp, by rw [ht]; exact hP, hD⟩, hS.F ht⟩) hS.2.2 d_S_standsNext_115
set_option maxHeartbeats 4000000 in
set_option maxRecDepth 100000 in
theorem c_S_keepTrial (l : Launch) (D : va_G) (ad : Nat → Nat) (ca : Nat → ClassId) (P S : Nat → Nat → Nat) (a : Nat) (cS : ClassId) (ro : Nat → Nat) (hP0 : okP P) (hS0 : okS S) (hro : ∀ k, ro k ≤ 3) (x : Nat) (sz : Nat) : Met l y_S_keepTrial w_S_keepTrial { frames := 1, cells := 0, slots := 0, locals := 18 } (rw_P [.ref (ad 2), .int (nI x)] D (wSP ad ca P S a cS ro) (tSP ca cS) sz) (rw_Qv (fun u : Unit => True) D (wSP ad ca P S a cS ro) (fun u => wSP ad ca P (ktS S x) a cS ro) sz) 0 0 (va_A (wSP ad ca P S a cS ro) sz) := by
  refine Met.ofW (cc := b_S_keepTrial) (maxL := 2) (ret := none) (by decide) rfl ?_
  intro p e s m args below meth c s₁ B hml hv
  obtain ⟨rfl, hsz, hN, hP, hK, hD0⟩ := hv
  have hx := B.exec
  have hb := B.bytes
  have hr := B.returns
  have hts := atoms_spec (ws := w_S_keepTrial) B.pre
  have htb : ∀ w ∈ TBG, w.before [.ref (ad 2), .int (nI x)].toArray s = true := fun w h => hts w (List.mem_cons_of_mem _ h)
  have hown : s.vm.findClass R_S = some m.cls := findClass_of_methodNamed B.named
  have hlocks := B.notSynchronized
  subst hsz
  have hD := hD0.self (sz := s.heap.size)
  unfold rw_Qv
  generalize hAe : va_A (wSP ad ca P S a cS ro) s.heap.size = A at hD ⊢
  have hA : ∀ q : Nat, s.heap.size ≤ q → A q := fun q h => by rw [← hAe]; exact Or.inr h
  have hS : va_S A s.heap s.heap [] := va_S.rf
  have hl := lv_entry ([.ref (ad 2), .int (nI x)]) (n := 2) (Nat.le_of_ble_eq_true rfl)
  rw [lg_entry_eq]
  generalize (lg_sl ([.ref (ad 2), .int (nI x)]) ++ List.replicate (2 - (lg_sl ([.ref (ad 2), .int (nI x)])).length) Slot.unset).toArray = ls at hl ⊢
  have hl : lv_has ls 2 [(0, .ref (ad 2)), (1, .int (nI x))] := hl
  refine nr_start hP hS (fun H locs hP hS => ?_)
  obtain ⟨h00, h01, h02, h03, h04, h05, hp1, hp2, hp3, hp4, hp5, hp6⟩ := id hP0
  obtain ⟨g00, g01, g02, g03, g04, g05, g06, hs1, hs2, hs3, hs4, hs5, hs6, hs7⟩ := id hS0
  refine lv_aload_n hx hb d_S_keepTrial_0 rfl (lv_at hl 0 rfl) ?_
  refine va_get (D := D) (ci := 1) (v := .ref (ad 10)) (C := R_S) (T := F_S) (N := 15) hx hb htb u_S hown hK hP 7 rfl rfl 2 (by decide) (htb _ q86) (fun _ h9 => h9) rfl d_S_keepTrial_1 ?_
  refine nr_iconst hx hb 0 d_S_keepTrial_4 (by decide) ?_
  refine lv_aload_n hx hb d_S_keepTrial_5 rfl (lv_at hl 0 rfl) ?_
  refine va_get (D := D) (ci := 1) (v := .ref (ad 9)) (C := R_S) (T := F_S) (N := 15) hx hb htb u_S hown hK hP 7 rfl rfl 1 (by decide) (htb _ q84) (fun _ h9 => h9) rfl d_S_keepTrial_6 ?_
  refine nr_iconst hx hb 0 d_S_keepTrial_9 (by decide) ?_
  refine nr_bipush hx hb 42 d_S_keepTrial_10 (by decide) ?_
  refine nr_copy hx hb (hml.trans hl.1.symm) hown (htb _ q471) (htb _ q235) (htb _ q234) (htb _ q12) hK hP hD hS 9 8 7 6 rfl rfl rfl rfl (Nat.le_of_ble_eq_true rfl) (Nat.le_of_ble_eq_true rfl) d_S_keepTrial_12 (fun H locs hP hD hS => ?_)
  have hP : va_P D cls (wSP ad ca P (upr S 1 (S 2)) a cS ro) H := hP
  have hD : va_D A (wSP ad ca P (upr S 1 (S 2)) a cS ro) := hD
  refine lv_aload_n hx hb d_S_keepTrial_15 rfl (lv_at hl 0 rfl) ?_
  refine lv_iload_n hx hb d_S_keepTrial_16 rfl (lv_at hl 1 rfl) ?_
  refine va_put (D := D) (ci := 1) (v := .int (nI x)) (ty := .int) (C := R_S) (T := F_S) (N := 15) hx hb htb u_S t_S t_S_ok n_S hown hK hP hD hS 7 rfl rfl 12 (by decide) (htb _ q98) (fun _ h9 => h9) rfl (by decide +kernel) rfl rfl (Nat.le_of_ble_eq_true rfl) d_S_keepTrial_17 (fun H locs hP hD hS => ?_)
  have hP : va_P D cls (wSP ad ca P (up2 (upr S 1 (S 2)) 0 4 x) a cS ro) H := hP
  have hD : va_D A (wSP ad ca P (up2 (upr S 1 (S 2)) 0 4 x) a cS ro) := hD
  refine lv_aload_n hx hb d_S_keepTrial_20 rfl (lv_at hl 0 rfl) ?_
  refine lv_dup hx hb d_S_keepTrial_21 rfl ?_
  refine va_get (D := D) (ci := 1) (v := .int (nI (S 0 3))) (C := R_S) (T := F_S) (N := 15) hx hb htb u_S hown hK hP 7 rfl rfl 11 (by decide) (htb _ q96) (fun _ h9 => h9) rfl d_S_keepTrial_22 ?_
  refine nr_iconst hx hb 1 d_S_keepTrial_25 (by decide) ?_
  refine nr_iadd hx hb d_S_keepTrial_26 ?_
  refine va_put (D := D) (ci := 1) (v := .int (nI ((S 0 3) + 1))) (ty := .int) (C := R_S) (T := F_S) (N := 15) hx hb htb u_S t_S t_S_ok n_S hown hK hP hD hS 7 rfl rfl 11 (by decide) (htb _ q96) (fun _ h9 => h9) rfl (by decide +kernel) rfl rfl (Nat.le_of_ble_eq_true rfl) d_S_keepTrial_27 (fun H locs hP hD hS => ?_)
  have hP : va_P D cls (wSP ad ca P (up2 (up2 (upr S 1 (S 2)) 0 4 x) 0 3 ((S 0 3) + 1)) a cS ro) H := hP
  have hD : va_D A (wSP ad ca P (up2 (up2 (upr S 1 (S 2)) 0 4 x) 0 3 ((S 0 3) + 1)) a cS ro) := hD
  have hfin : ktS S x = up2 (up2 (upr S 1 (S 2)) 0 4 x) 0 3 ((S 0 3) + 1) := rfl
  rw [← hfin] at hP hD
  exact W.vret hx hb hr (fun t ht hW => ⟨⟨(), rfl, trivial, by rw [ht]; exact hP, hD⟩, hS.F ht⟩) hS.2.2 d_S_keepTrial_30
set_option maxHeartbeats 4000000 in
set_option maxRecDepth 100000 in
theorem c_S_takeOnlyRoster (l : Launch) (D : va_G) (ad : Nat → Nat) (ca : Nat → ClassId) (P S : Nat → Nat → Nat) (a : Nat) (cS : ClassId) (ro : Nat → Nat) (hP0 : okP P) (hS0 : okS S) (hro : ∀ k, ro k ≤ 3) (sz : Nat) : Met l y_S_takeOnlyRoster w_S_takeOnlyRoster { frames := 4, cells := 0, slots := 0, locals := 93 } (rw_P [.ref (ad 2)] D (wSP ad ca P S a cS ro) (tSP ca cS) sz) (rw_Qv (fun u : Unit => True) D (wSP ad ca P S a cS ro) (fun u => wSP ad ca P (toS P S) a cS ro) sz) 0 0 (va_A (wSP ad ca P S a cS ro) sz) := by
  refine Met.ofW (cc := b_S_takeOnlyRoster) (maxL := 1) (ret := none) (by decide) rfl ?_
  intro p e s m args below meth c s₁ B hml hv
  obtain ⟨rfl, hsz, hN, hP, hK, hD0⟩ := hv
  have hx := B.exec
  have hb := B.bytes
  have hr := B.returns
  have hts := atoms_spec (ws := w_S_takeOnlyRoster) B.pre
  have htb : ∀ w ∈ TBG, w.before [.ref (ad 2)].toArray s = true := fun w h => hts w (List.mem_cons_of_mem _ h)
  have hown : s.vm.findClass R_S = some m.cls := findClass_of_methodNamed B.named
  have hlocks := B.notSynchronized
  subst hsz
  have hD := hD0.self (sz := s.heap.size)
  unfold rw_Qv
  generalize hAe : va_A (wSP ad ca P S a cS ro) s.heap.size = A at hD ⊢
  have hA : ∀ q : Nat, s.heap.size ≤ q → A q := fun q h => by rw [← hAe]; exact Or.inr h
  have hS : va_S A s.heap s.heap [] := va_S.rf
  have hl := lv_entry ([.ref (ad 2)]) (n := 1) (Nat.le_of_ble_eq_true rfl)
  rw [lg_entry_eq]
  generalize (lg_sl ([.ref (ad 2)]) ++ List.replicate (1 - (lg_sl ([.ref (ad 2)])).length) Slot.unset).toArray = ls at hl ⊢
  have hl : lv_has ls 1 [(0, .ref (ad 2))] := hl
  refine nr_start hP hS (fun H locs hP hS => ?_)
  obtain ⟨h00, h01, h02, h03, h04, h05, hp1, hp2, hp3, hp4, hp5, hp6⟩ := id hP0
  obtain ⟨g00, g01, g02, g03, g04, g05, g06, hs1, hs2, hs3, hs4, hs5, hs6, hs7⟩ := id hS0
  refine lv_aload_n hx hb d_S_takeOnlyRoster_0 rfl (lv_at hl 0 rfl) ?_
  refine va_get (D := D) (ci := 1) (v := .ref (ad 1)) (C := R_S) (T := F_S) (N := 15) hx hb htb u_S hown hK hP 7 rfl rfl 0 (by decide) (htb _ q83) (fun _ h9 => h9) rfl d_S_takeOnlyRoster_1 ?_
  refine lv_aload_n hx hb d_S_takeOnlyRoster_4 rfl (lv_at hl 0 rfl) ?_
  refine va_get (D := D) (ci := 1) (v := .ref (ad 10)) (C := R_S) (T := F_S) (N := 15) hx hb htb u_S hown hK hP 7 rfl rfl 2 (by decide) (htb _ q86) (fun _ h9 => h9) rfl d_S_takeOnlyRoster_5 ?_
  have hcur2 : ∀ k, S 2 k ≤ 3 := okS_2 hS0
  refine nr_calli (va_runVN (As := [.ref (ad 10)]) (rest := []) ⟨hx, hb, hml, hown, hts⟩ (c_P_firstNeedFault l D ad ca P (ad 10) (ca 7) (S 2) hP0 hcur2 ) ⟨va_cnB 1 hts (gTB q_P_firstNeedFault) rfl rfl rfl (hN.nw q476 rfl) (htb _ q2) hd_P_firstNeedFault ⟨Nat.le_of_ble_eq_true rfl, Nat.le_of_ble_eq_true rfl⟩, (htb _ q163), (htb _ sel_P_firstNeedFault)⟩ ⟨ro_blind, va_recv (hK.sub (tys' := []) [] rfl) hP (ci := 0) (q0 := 0) rfl rfl, ro_pre hN (hP.sub (ws' := (wPS ad ca P (ad 10) (ca 7) (S 2))) [0, 1, 2, 3, 4, 5, 6, 9] rfl) (hK.sub (tys' := (tPS ca (ca 7))) [0, 1, 2, 3, 4, 5, 7] rfl)⟩ rfl rfl hl.1 rfl (lv_room (Nat.le_of_ble_eq_true rfl)) d_S_takeOnlyRoster_8 ⟨Nat.le_of_ble_eq_true rfl, Nat.le_of_ble_eq_true rfl⟩) (fun r_1 hr_1 => ?_)
  subst hr_1
  refine nr_if_ne (tgt := 19) hx hb (Nat.lt_of_le_of_lt (needFault_le _ h01) (by decide)) d_S_takeOnlyRoster_11 (by decide) (fun c_11 => ?_) (fun c_11 => ?_)
  · have hfin : toS P S = S := by unfold toS; rw [if_neg c_11]
    rw [← hfin] at hP hD
    exact W.vret hx hb hr (fun t ht hW => ⟨⟨(), rfl, trivial, by rw [ht]; exact hP, hD⟩, hS.F ht⟩) hS.2.2 d_S_takeOnlyRoster_19
  · refine lv_aload_n hx hb d_S_takeOnlyRoster_14 rfl (lv_at hl 0 rfl) ?_
    refine nr_iconst hx hb 0 d_S_takeOnlyRoster_15 (by decide) ?_
    refine nr_callv (wr := ([] : va_W)) (va_runV (As := [.int (nI 0)]) (rest := []) ⟨hx, hb, hml, hown, hts⟩ (c_S_keepTrial l D ad ca P S a cS ro hP0 hS0 hro 0 H.size) ⟨callB_of 1 hts (gTB q_S_keepTrial) rfl rfl rfl (htb _ q3) (htb _ q477) hd_S_keepTrial ⟨Nat.le_of_ble_eq_true rfl, Nat.le_of_ble_eq_true rfl⟩, (htb _ q479), (htb _ sel_S_keepTrial)⟩ ⟨rw_blind, va_recv (hK.sub (tys' := []) [] rfl) hP (ci := 1) (q0 := 7) rfl rfl, rw_pre hN (hP.sub (ws' := (wSP ad ca P S a cS ro)) [0, 1, 2, 3, 4, 5, 6, 7, 8, 9, 10, 11, 12, 13, 14, 15] rfl) (hK.sub (tys' := (tSP ca cS)) [0, 1, 2, 3, 4, 5, 6, 7, 8, 9, 10, 11, 12, 13] rfl) (hD.sub (ws' := (wSP ad ca P S a cS ro)) [0, 1, 2, 3, 4, 5, 6, 7, 8, 9, 10, 11, 12, 13, 14, 15] (by decide) rfl)⟩ rfl rfl hl.1 rfl (lv_room (Nat.le_of_ble_eq_true rfl)) d_S_takeOnlyRoster_16 ⟨Nat.le_of_ble_eq_true rfl, Nat.le_of_ble_eq_true rfl⟩) hP hD hS hA [0, 1, 2, 3, 4, 5, 6, 7, 8, 9, 10, 11, 12, 13, 14, 15] [] rfl rfl (by decide) (by decide) (fun u_2 H locs hu_2 hP hD hS => ?_)
    replace hP := hP.sub (ws' := wSP ad ca P (ktS S 0) a cS ro) [0, 1, 2, 3, 4, 5, 6, 7, 8, 9, 10, 11, 12, 13, 14, 15] rfl
    replace hD := hD.sub (ws' := wSP ad ca P (ktS S 0) a cS ro) [0, 1, 2, 3, 4, 5, 6, 7, 8, 9, 10, 11, 12, 13, 14, 15] (by decide) rfl
    have hfin : toS P S = ktS S 0 := by unfold toS; rw [if_pos c_11]
    rw [← hfin] at hP hD
    exact W.vret hx hb hr (fun t ht hW => ⟨⟨(), rfl, trivial, by rw [ht]; exact hP, hD⟩, hS.F ht⟩) hS.2.2 d_S_takeOnlyRoster_19

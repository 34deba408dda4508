def tw_P (av : List Value) (D : va_G) (ws : va_W) (tys : List (ClassId × FieldType)) (sz : Nat) : Array Value → State → Prop := va_Pc av (fun U => U.heap.size = sz ∧ NX U ∧ TX U ∧ va_P D cls ws U.heap ∧ va_K D cls tys U ∧ va_D (fun _ => True) ws)
/-- its end: a new object of the class is thrown; the world is as it was -/
def tqw (cl : String) (D : va_G) (ws : va_W) : Array Value → State → Outcome → State → Prop := fun _ st o t => ∃ q, o = .threw q ∧ isX cl st q t ∧ va_P D cls ws t.heap
theorem tw_blind {av : List Value} {D : va_G} {ws : va_W} {tys : List (ClassId × FieldType)} {sz : Nat} : FrameBlind (tw_P av D ws tys sz) := fun a U g mk q => ⟨q.1, q.2.1, q.2.2.1.calling, q.2.2.2.1, q.2.2.2.2.1, va_K.moved (u := U) (U := U.calling g mk a) (Vm.Alike.refl U.vm) q.2.2.2.2.2.1, q.2.2.2.2.2.2⟩
theorem tx_blind {av : List Value} : FrameBlind (va_Pc av (fun U => NX U ∧ TX U)) := fun a U g mk q => ⟨q.1, q.2.1.calling, q.2.2⟩
theorem tqw_of {cl : String} {D : va_G} {ws : va_W} {s st t U : State} {v : Addr} {a a2 : Array Value} (hP : va_P D cls ws s.heap) (h0 : st.heap = s.heap) (hw : s.WarmedH st.vm) (hq : tq cl a st (.threw v) t) (hU : U.heap = t.heap) : tqw cl D ws a2 s (.threw v) U := by
  obtain ⟨q, e, h1, h2⟩ := hq
  cases e
  exact ⟨v, rfl, h1.to hw (by rw [h0]; exact Nat.le_refl _) hU, va_P_grown hP (fun a ha => by rw [hU, ← h0]; exact same_cells (t := { t with vm := st.vm }) h2 a (by rw [h0]; exact ha))⟩
theorem inR_bad {x : Int32} {n : Nat} (h : inR x n = false) (hn : n < 1000) : x < nI 0 ∨ ¬ x ≤ nI n - nI 1 := by
  rw [inR_eq x hn] at h
  have h := of_decide_eq_false h
  by_cases h1 : x < nI 0
  · exact Or.inl h1
  · exact Or.inr (fun h2 => h ⟨Int32.not_lt.mp h1, h2⟩)
set_option maxHeartbeats 4000000 in
set_option maxRecDepth 100000 in
theorem t_R_refuseFrozen (l : Launch) (htr : l.stackTraces = false) (D : va_G) (ad : Nat → Nat) (ca : Nat → ClassId) (P S G : Nat → Nat → Nat) (hP0 : okP P) (hS0 : okS S) (hG0 : okG G) (d : Nat) (hd : d < 7) (hfz : d < G 0 0) (sz : Nat) : MetT l y_R_refuseFrozen w_R_refuseFrozen { frames := 6, cells := 1, slots := 6, locals := 100 } (tw_P [.ref (ad 0), .int (nI d)] D (wR ad ca P S G) (tR ca) sz) (tqw "java/lang/IllegalStateException" D (wR ad ca P S G)) 1 6 (va_A (wR ad ca P S G) sz) := by
  refine MetT.ofW (cc := b_R_refuseFrozen) (maxL := 2) (ret := none) (by decide) rfl ?_
  intro p e s m args below meth c s₁ B hml hv
  obtain ⟨rfl, hsz, hN, hX, hP, hK, hD0⟩ := hv
  have hx := B.exec
  have hb := B.bytes
  have hts := atoms_spec (ws := w_R_refuseFrozen) B.pre
  have htb : ∀ w ∈ TBG, w.before [.ref (ad 0), .int (nI d)].toArray s = true := fun w h => hts w (List.mem_cons_of_mem _ h)
  have hown : s.vm.findClass R_R = some m.cls := findClass_of_methodNamed B.named
  have hlocks := B.notSynchronized
  subst hsz
  have hl := lv_entry ([.ref (ad 0), .int (nI d)]) (n := 2) (Nat.le_of_ble_eq_true rfl)
  rw [lg_entry_eq]
  generalize (lg_sl ([.ref (ad 0), .int (nI d)]) ++ List.replicate (2 - (lg_sl ([.ref (ad 0), .int (nI d)])).length) Slot.unset).toArray = ls at hl ⊢
  have hl : lv_has ls 2 [(0, .ref (ad 0)), (1, .int (nI d))] := hl
  obtain ⟨h00, h01, h02, h03, h04, h05, hp1, hp2, hp3, hp4, hp5, hp6⟩ := id hP0
  obtain ⟨g00, g01, g02, g03, g04, g05, g06, hs1, hs2, hs3, hs4, hs5, hs6, hs7⟩ := id hS0
  obtain ⟨k00, k01, hg1, hg2⟩ := id hG0
  refine lv_iload_n hx hb d_R_refuseFrozen_0 rfl (lv_at hl 1 rfl) ?_
  refine lv_aload_n hx hb d_R_refuseFrozen_1 rfl (lv_at hl 0 rfl) ?_
  refine va_get (D := D) (ci := 2) (v := .int (nI (G 0 0))) (C := R_R) (T := F_R) (N := 6) hx hb htb u_R hown hK hP 15 rfl rfl 4 (by decide) (htb _ q138) (fun _ h9 => h9) rfl d_R_refuseFrozen_2 ?_
  refine nr_icmp_ge (tgt := 18) hx hb (by omega) (by omega) d_R_refuseFrozen_5 (by decide) (fun c_5 => by exfalso; omega) (fun c_5 => ?_)
  intro T hT X
  exact nr_throwNew (names := ["java/lang/RuntimeException", "java/lang/Exception"]) hx hb htr hown (by decide +kernel) (by decide +kernel) (oa_ISE htb (hX.words _)) (htb _ (tbm 426 rfl rfl)) (htb _ (tbm 427 rfl rfl)) (htb _ (tbm 11 rfl rfl)) (hX.words _ _ x15) (fun _ h => absurd h List.not_mem_nil) (Nat.le_refl _) (fun _ h => absurd h List.not_mem_nil) (hml.trans hl.1.symm) (no_handlers X B.named (hts _ List.mem_cons_self) _) (Nat.le_of_ble_eq_true rfl) (Nat.le_of_ble_eq_true rfl) (by decide) (by decide) d_R_refuseFrozen_8 d_R_refuseFrozen_11 d_R_refuseFrozen_12 d_R_refuseFrozen_14 d_R_refuseFrozen_17 (fun q t h1 h2 h3 => ⟨q, rfl, h1, va_P_grown hP (same_cells (t := { t with vm := s.vm }) h3)⟩) hlocks T hT X
set_option maxHeartbeats 4000000 in
set_option maxRecDepth 100000 in
theorem t_R_refuseUnknownPerson (l : Launch) (htr : l.stackTraces = false) (D : va_G) (ad : Nat → Nat) (ca : Nat → ClassId) (P S G : Nat → Nat → Nat) (hP0 : okP P) (hS0 : okS S) (hG0 : okG G) (x : Int32) (hbad : inR x (P 0 0) = false) (sz : Nat) : MetT l y_R_refuseUnknownPerson w_R_refuseUnknownPerson { frames := 7, cells := 1, slots := 6, locals := 130 } (tw_P [.ref (ad 0), .int x] D (wR ad ca P S G) (tR ca) sz) (tqw "java/lang/IllegalArgumentException" D (wR ad ca P S G)) 1 6 (va_A (wR ad ca P S G) sz) := by
  refine MetT.ofW (cc := b_R_refuseUnknownPerson) (maxL := 2) (ret := none) (by decide) rfl ?_
  intro p e s m args below meth c s₁ B hml hv
  obtain ⟨rfl, hsz, hN, hX, hP, hK, hD0⟩ := hv
  have hx := B.exec
  have hb := B.bytes
  have hts := atoms_spec (ws := w_R_refuseUnknownPerson) B.pre
  have htb : ∀ w ∈ TBG, w.before [.ref (ad 0), .int x].toArray s = true := fun w h => hts w (List.mem_cons_of_mem _ h)
  have hown : s.vm.findClass R_R = some m.cls := findClass_of_methodNamed B.named
  have hlocks := B.notSynchronized
  subst hsz
  have hl := lv_entry ([.ref (ad 0), .int x]) (n := 2) (Nat.le_of_ble_eq_true rfl)
  rw [lg_entry_eq]
  generalize (lg_sl ([.ref (ad 0), .int x]) ++ List.replicate (2 - (lg_sl ([.ref (ad 0), .int x])).length) Slot.unset).toArray = ls at hl ⊢
  have hl : lv_has ls 2 [(0, .ref (ad 0)), (1, .int x)] := hl
  obtain ⟨h00, h01, h02, h03, h04, h05, hp1, hp2, hp3, hp4, hp5, hp6⟩ := id hP0
  obtain ⟨g00, g01, g02, g03, g04, g05, g06, hs1, hs2, hs3, hs4, hs5, hs6, hs7⟩ := id hS0
  obtain ⟨k00, k01, hg1, hg2⟩ := id hG0
  refine lv_iload_n hx hb d_R_refuseUnknownPerson_0 rfl (lv_at hl 1 rfl) ?_
  refine nr_iconst hx hb 0 d_R_refuseUnknownPerson_1 (by decide) ?_
  refine lv_aload_n hx hb d_R_refuseUnknownPerson_2 rfl (lv_at hl 0 rfl) ?_
  refine va_get (D := D) (ci := 2) (v := .ref (ad 1)) (C := R_R) (T := F_R) (N := 6) hx hb htb u_R hown hK hP 15 rfl rfl 0 (by decide) (htb _ q134) (fun _ h9 => h9) rfl d_R_refuseUnknownPerson_3 ?_
  refine va_getN (D := D) (ci := 0) (v := .int (nI (P 0 0))) (C := R_P) (T := F_P) (N := 12) hx hb htb u_P hown hK hP 0 rfl rfl 0 (by decide) (hN.at q30 rfl rfl) (fun _ h9 => h9) rfl d_R_refuseUnknownPerson_6 ?_
  refine nr_iconst hx hb 1 d_R_refuseUnknownPerson_9 (by decide) ?_
  refine lv_isub hx hb d_R_refuseUnknownPerson_10 ?_
  intro T hT X
  exact nr_out (nr_runST (As := [.int x, .int (nI 0), .int (nI (P 0 0) - nI 1)]) (rest := []) ⟨hx, hb, hml, hown, hts⟩ (t_R_refuseUnknown l htr x (nI 0) (nI (P 0 0) - nI 1) (inR_bad hbad (by omega))) ⟨callB_of 3 hts (gTB q_R_refuseUnknown) rfl rfl rfl (htb _ q1) (htb _ q368) hd_R_refuseUnknown ⟨Nat.le_of_ble_eq_true rfl, Nat.le_of_ble_eq_true rfl⟩, (htb _ q369)⟩ ⟨tx_blind, fun U hU hW => ⟨rfl, hN.warm hW, tx_keep hX hP va_S.rf U hU hW⟩⟩ rfl rfl hl.1 rfl (lv_room (Nat.le_of_ble_eq_true rfl)) d_R_refuseUnknownPerson_11 ⟨Nat.le_of_ble_eq_true rfl, Nat.le_of_ble_eq_true rfl⟩) (no_handlers X B.named (hts _ List.mem_cons_self) _) (fun _ h => absurd h List.not_mem_nil) (fun _ h => h.elim) hlocks (fun v st t U h0 hw hq hU hW => tqw_of hP h0 hw hq hU) T hT X
set_option maxHeartbeats 4000000 in
set_option maxRecDepth 100000 in
theorem t_R_refuseUnknownDay (l : Launch) (htr : l.stackTraces = false) (D : va_G) (ad : Nat → Nat) (ca : Nat → ClassId) (P S G : Nat → Nat → Nat) (hP0 : okP P) (hS0 : okS S) (hG0 : okG G) (x : Int32) (hbad : inR x (P 0 1) = false) (sz : Nat) : MetT l y_R_refuseUnknownDay w_R_refuseUnknownDay { frames := 7, cells := 1, slots := 6, locals := 130 } (tw_P [.ref (ad 0), .int x] D (wR ad ca P S G) (tR ca) sz) (tqw "java/lang/IllegalArgumentException" D (wR ad ca P S G)) 1 6 (va_A (wR ad ca P S G) sz) := by
  refine MetT.ofW (cc := b_R_refuseUnknownDay) (maxL := 2) (ret := none) (by decide) rfl ?_
  intro p e s m args below meth c s₁ B hml hv
  obtain ⟨rfl, hsz, hN, hX, hP, hK, hD0⟩ := hv
  have hx := B.exec
  have hb := B.bytes
  have hts := atoms_spec (ws := w_R_refuseUnknownDay) B.pre
  have htb : ∀ w ∈ TBG, w.before [.ref (ad 0), .int x].toArray s = true := fun w h => hts w (List.mem_cons_of_mem _ h)
  have hown : s.vm.findClass R_R = some m.cls := findClass_of_methodNamed B.named
  have hlocks := B.notSynchronized
  subst hsz
  have hl := lv_entry ([.ref (ad 0), .int x]) (n := 2) (Nat.le_of_ble_eq_true rfl)
  rw [lg_entry_eq]
  generalize (lg_sl ([.ref (ad 0), .int x]) ++ List.replicate (2 - (lg_sl ([.ref (ad 0), .int x])).length) Slot.unset).toArray = ls at hl ⊢
  have hl : lv_has ls 2 [(0, .ref (ad 0)), (1, .int x)] := hl
  obtain ⟨h00, h01, h02, h03, h04, h05, hp1, hp2, hp3, hp4, hp5, hp6⟩ := id hP0
  obtain ⟨g00, g01, g02, g03, g04, g05, g06, hs1, hs2, hs3, hs4, hs5, hs6, hs7⟩ := id hS0
  obtain ⟨k00, k01, hg1, hg2⟩ := id hG0
  refine lv_iload_n hx hb d_R_refuseUnknownDay_0 rfl (lv_at hl 1 rfl) ?_
  refine nr_iconst hx hb 0 d_R_refuseUnknownDay_1 (by decide) ?_
  refine lv_aload_n hx hb d_R_refuseUnknownDay_2 rfl (lv_at hl 0 rfl) ?_
  refine va_get (D := D) (ci := 2) (v := .ref (ad 1)) (C := R_R) (T := F_R) (N := 6) hx hb htb u_R hown hK hP 15 rfl rfl 0 (by decide) (htb _ q134) (fun _ h9 => h9) rfl d_R_refuseUnknownDay_3 ?_
  refine va_getN (D := D) (ci := 0) (v := .int (nI (P 0 1))) (C := R_P) (T := F_P) (N := 12) hx hb htb u_P hown hK hP 0 rfl rfl 1 (by decide) (hN.at q33 rfl rfl) (fun _ h9 => h9) rfl d_R_refuseUnknownDay_6 ?_
  refine nr_iconst hx hb 1 d_R_refuseUnknownDay_9 (by decide) ?_
  refine lv_isub hx hb d_R_refuseUnknownDay_10 ?_
  intro T hT X
  exact nr_out (nr_runST (As := [.int x, .int (nI 0), .int (nI (P 0 1) - nI 1)]) (rest := []) ⟨hx, hb, hml, hown, hts⟩ (t_R_refuseUnknown l htr x (nI 0) (nI (P 0 1) - nI 1) (inR_bad hbad (by omega))) ⟨callB_of 3 hts (gTB q_R_refuseUnknown) rfl rfl rfl (htb _ q1) (htb _ q368) hd_R_refuseUnknown ⟨Nat.le_of_ble_eq_true rfl, Nat.le_of_ble_eq_true rfl⟩, (htb _ q369)⟩ ⟨tx_blind, fun U hU hW => ⟨rfl, hN.warm hW, tx_keep hX hP va_S.rf U hU hW⟩⟩ rfl rfl hl.1 rfl (lv_room (Nat.le_of_ble_eq_true rfl)) d_R_refuseUnknownDay_11 ⟨Nat.le_of_ble_eq_true rfl, Nat.le_of_ble_eq_true rfl⟩) (no_handlers X B.named (hts _ List.mem_cons_self) _) (fun _ h => absurd h List.not_mem_nil) (fun _ h => h.elim) hlocks (fun v st t U h0 hw hq hU hW => tqw_of hP h0 hw hq hU) T hT X

def tw_P (av : List Value) (D : va_G) (ws : va_W) (tys : List (ClassId × FieldType)) (sz : Nat) : Array Value → State → Prop := va_Pc av (fun U => U.heap.size = sz ∧ NX U ∧ TX U ∧ va_P D cls ws U.heap ∧ va_K D cls tys U ∧ va_D (fun _ => True) ws)
/-- its end: a new object of the class is thrown; the world is as it was -/
def tqw (cl : String) (D : va_G) (ws : va_W) : Array Value → State → Outcome → State → Prop := fun _ st o t => ∃ q, o = .threw q ∧ isX cl st q t ∧ va_P D cls ws t.heap
theorem tw_blind {av : List Value} {D : va_G} {ws : va_W} {tys : List (ClassId × FieldType)} {sz : Nat} : FrameBlind (tw_P av D ws tys sz) := fun a U g mk q => ⟨q.1, q.2.1, q.2.2.1.calling, q.2.2.2.1, q.2.2.2.2.1, va_K.moved (u := U) (U := U.calling g mk a) (Vm.Alike.refl U.vm) q.2.2.2.2.2.1, q.2.2.2.2.2.2⟩
set_option maxHeartbeats 4000000 in
set_option maxRecDepth 100000 in
theorem t_R_refuseFrozen (l : Launch) (htr : l.stackTraces = false) (D : va_G) (ad : Nat → Nat) (ca : Nat → ClassId) (P S G : Nat → Nat → Nat) (hP0 : okP P) (hS0 : okS S) (hG0 : okG G) (d : Nat) (hd : d < 7) (hfz : d < G 0 0) (sz : Nat) : MetT l y_R_refuseFrozen w_R_refuseFrozen { frames := 6, cells := 1, slots := 6, locals := 100 } (tw_P [.ref (ad 0), .int (nI d)] D (wR ad ca P S G) (tR ca) sz) (tqw "java/lang/IllegalStateException" D (wR ad ca P S G)) 1 6 (va_A (wR ad ca P S G) sz) := by
  refine MetT.ofW (cc := b_R_refuseFrozen) (maxL := 2) (ret := none) (by decide) rfl ?_
  intro p e s m args below meth c s₁ B hml hv
  obtain ⟨rfl, hsz, hN, hX, hP, hK, hD0⟩ := hv
  have hx := B.exec
  have hb := B.bytes
  have hts := atoms_spec (ws := w_R_refuseFrozen) B.pre
  have htb : ∀ w ∈ TBG, w.before [.ref (ad 0), .int (nI d)].toArray s = true := fun w h => hts w (List.mem_cons_of_mem _ h)
  have hown : s.vm.findClass R_R = some m.cls := findClass_of_methodNamed B.named
  have hlocks := B.notSynchronized
  subst hsz
  have hl := lv_entry ([.ref (ad 0), .int (nI d)]) (n := 2) (Nat.le_of_ble_eq_true rfl)
  rw [lg_entry_eq]
  generalize (lg_sl ([.ref (ad 0), .int (nI d)]) ++ List.replicate (2 - (lg_sl ([.ref (ad 0), .int (nI d)])).length) Slot.unset).toArray = ls at hl ⊢
  have hl : lv_has ls 2 [(0, .ref (ad 0)), (1, .int (nI d))] := hl
  obtain ⟨h00, h01, h02, h03, h04, h05, hp1, hp2, hp3, hp4, hp5, hp6⟩ := id hP0
  obtain ⟨g00, g01, g02, g03, g04, g05, g06, hs1, hs2, hs3, hs4, hs5, hs6, hs7⟩ := id hS0
  obtain ⟨k00, k01, hg1, hg2⟩ := id hG0
  refine lv_iload_n hx hb d_R_refuseFrozen_0 rfl (lv_at hl 1 rfl) ?_
  refine lv_aload_n hx hb d_R_refuseFrozen_1 rfl (lv_at hl 0 rfl) ?_
  refine va_get (D := D) (ci := 2) (v := .int (nI (G 0 0))) (C := R_R) (T := F_R) (N := 6) hx hb htb u_R hown hK hP 15 rfl rfl 4 (by decide) (htb _ q138) (fun _ h9 => h9) rfl d_R_refuseFrozen_2 ?_
  refine nr_icmp_ge (tgt := 18) hx hb (by omega) (by omega) d_R_refuseFrozen_5 (by decide) (fun c_5 => by exfalso; omega) (fun c_5 => ?_)
  intro T hT X
  exact nr_throwNew (names := ["java/lang/RuntimeException", "java/lang/Exception"]) hx hb htr hown (by decide +kernel) (by decide +kernel) (oa_ISE htb (hX.words _)) (htb _ (tbm 426 rfl rfl)) (htb _ (tbm 427 rfl rfl)) (htb _ (tbm 11 rfl rfl)) (hX.words _ _ x15) (fun _ h => absurd h List.not_mem_nil) (Nat.le_refl _) (fun _ h => absurd h List.not_mem_nil) (hml.trans hl.1.symm) (no_handlers X B.named (hts _ List.mem_cons_self) _) (Nat.le_of_ble_eq_true rfl) (Nat.le_of_ble_eq_true rfl) (by decide) (by decide) d_R_refuseFrozen_8 d_R_refuseFrozen_11 d_R_refuseFrozen_12 d_R_refuseFrozen_14 d_R_refuseFrozen_17 (fun q t h1 h2 h3 => ⟨q, rfl, h1, va_P_grown hP (same_cells (t := { t with vm := s.vm }) h3)⟩) hlocks T hT X

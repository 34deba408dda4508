abbrev wR (ad : Nat → Nat) (ca : Nat → ClassId) (P S G : Nat → Nat → Nat) : va_W := wP ad ca P ++ (wS ad ca S ++ [(ad 0, .inr (2, [.ref (ad 1), .ref (ad 2), .ref (ad 16), .ref (ad 17), .int (nI (G 0 0)), .int (nI (G 0 1))])), (ad 16, .inl (ca 13, 42, .inl (fun k => nI (G 1 k)))), (ad 17, .inl (ca 14, 42, .inl (fun k => nI (G 2 k))))])
abbrev tR (ca : Nat → ClassId) : List (ClassId × FieldType) := tP ca ++ (tS ca ++ [(ca 13, .int), (ca 14, .int)])
def solR (u : Nat → Nat → Nat) (F : Nat × Nat × Nat × Nat × (Nat → Nat)) (r : Int32) : Prop := ranS u F ∧ (0 < F.2.2.1 → r = nI F.2.2.2.1) ∧ (F.2.2.1 = 0 → r = -1)
set_option maxHeartbeats 4000000 in
set_option maxRecDepth 100000 in
theorem r_R_refuseUnknown (l : Launch) (D : va_G) (x lo hi : Nat) (h1 : lo ≤ x) (h2 : x ≤ hi) (h3 : hi < 2147483648) (sz : Nat) : Met l y_R_refuseUnknown w_R_refuseUnknown { frames := 0, cells := 0, slots := 0, locals := 0 } (rw_P [.int (nI x), .int (nI lo), .int (nI hi)] D ([]) ([]) sz) (rw_Qv (fun u : Unit => True) D ([]) (fun u => []) sz) 0 0 (va_A ([]) sz) := by
  refine Met.ofW (cc := b_R_refuseUnknown) (maxL := 3) (ret := none) (by decide) rfl ?_
  intro p e s m args below meth c s₁ B hml hv
  obtain ⟨rfl, hsz, hN, hP, hK, hD0⟩ := hv
  have hx := B.exec
  have hb := B.bytes
  have hr := B.returns
  have hts := atoms_spec (ws := w_R_refuseUnknown) B.pre
  have htb : ∀ w ∈ TBG, w.before [.int (nI x), .int (nI lo), .int (nI hi)].toArray s = true := fun w h => hts w (List.mem_cons_of_mem _ h)
  have hown : s.vm.findClass R_R = some m.cls := findClass_of_methodNamed B.named
  have hlocks := B.notSynchronized
  subst hsz
  have hD := hD0.self (sz := s.heap.size)
  unfold rw_Qv
  generalize hAe : va_A ([]) s.heap.size = A at hD ⊢
  have hA : ∀ q : Nat, s.heap.size ≤ q → A q := fun q h => by rw [← hAe]; exact Or.inr h
  have hS : va_S A s.heap s.heap [] := va_S.rf
  have hl := lv_entry ([.int (nI x), .int (nI lo), .int (nI hi)]) (n := 3) (Nat.le_of_ble_eq_true rfl)
  rw [lg_entry_eq]
  generalize (lg_sl ([.int (nI x), .int (nI lo), .int (nI hi)]) ++ List.replicate (3 - (lg_sl ([.int (nI x), .int (nI lo), .int (nI hi)])).length) Slot.unset).toArray = ls at hl ⊢
  have hl : lv_has ls 3 [(0, .int (nI x)), (1, .int (nI lo)), (2, .int (nI hi))] := hl
  refine nr_start hP hS (fun H locs hP hS => ?_)
  refine lv_iload_n hx hb d_R_refuseUnknown_0 rfl (lv_at hl 0 rfl) ?_
  refine lv_iload_n hx hb d_R_refuseUnknown_1 rfl (lv_at hl 1 rfl) ?_
  refine nr_icmp_lt (tgt := 10) hx hb (by omega) (by omega) d_R_refuseUnknown_2 (by decide) (fun c_2 => by exfalso; omega) (fun c_2 => ?_)
  refine lv_iload_n hx hb d_R_refuseUnknown_5 rfl (lv_at hl 0 rfl) ?_
  refine lv_iload_n hx hb d_R_refuseUnknown_6 rfl (lv_at hl 2 rfl) ?_
  refine nr_icmp_le (tgt := 20) hx hb (by omega) (by omega) d_R_refuseUnknown_7 (by decide) (fun c_7 => ?_) (fun c_7 => by exfalso; omega)
  exact W.vret hx hb hr (fun t ht hW => ⟨⟨(), rfl, trivial, by rw [ht]; exact hP, hD⟩, hS.F ht⟩) hS.2.2 d_R_refuseUnknown_20
set_option maxHeartbeats 4000000 in
set_option maxRecDepth 100000 in
theorem r_R_refuseOutside (l : Launch) (D : va_G) (x lo hi : Nat) (h1 : lo ≤ x) (h2 : x ≤ hi) (h3 : hi < 2147483648) (sz : Nat) : Met l y_R_refuseOutside w_R_refuseOutside { frames := 0, cells := 0, slots := 0, locals := 0 } (rw_P [.int (nI x), .int (nI lo), .int (nI hi)] D ([]) ([]) sz) (rw_Qv (fun u : Unit => True) D ([]) (fun u => []) sz) 0 0 (va_A ([]) sz) := by
  refine Met.ofW (cc := b_R_refuseOutside) (maxL := 3) (ret := none) (by decide) rfl ?_
  intro p e s m args below meth c s₁ B hml hv
  obtain ⟨rfl, hsz, hN, hP, hK, hD0⟩ := hv
  have hx := B.exec
  have hb := B.bytes
  have hr := B.returns
  have hts := atoms_spec (ws := w_R_refuseOutside) B.pre
  have htb : ∀ w ∈ TBG, w.before [.int (nI x), .int (nI lo), .int (nI hi)].toArray s = true := fun w h => hts w (List.mem_cons_of_mem _ h)
  have hown : s.vm.findClass R_R = some m.cls := findClass_of_methodNamed B.named
  have hlocks := B.notSynchronized
  subst hsz
  have hD := hD0.self (sz := s.heap.size)
  unfold rw_Qv
  generalize hAe : va_A ([]) s.heap.size = A at hD ⊢
  have hA : ∀ q : Nat, s.heap.size ≤ q → A q := fun q h => by rw [← hAe]; exact Or.inr h
  have hS : va_S A s.heap s.heap [] := va_S.rf
  have hl := lv_entry ([.int (nI x), .int (nI lo), .int (nI hi)]) (n := 3) (Nat.le_of_ble_eq_true rfl)
  rw [lg_entry_eq]
  generalize (lg_sl ([.int (nI x), .int (nI lo), .int (nI hi)]) ++ List.replicate (3 - (lg_sl ([.int (nI x), .int (nI lo), .int (nI hi)])).length) Slot.unset).toArray = ls at hl ⊢
  have hl : lv_has ls 3 [(0, .int (nI x)), (1, .int (nI lo)), (2, .int (nI hi))] := hl
  refine nr_start hP hS (fun H locs hP hS => ?_)
  refine lv_iload_n hx hb d_R_refuseOutside_0 rfl (lv_at hl 0 rfl) ?_
  refine lv_iload_n hx hb d_R_refuseOutside_1 rfl (lv_at hl 1 rfl) ?_
  refine nr_icmp_lt (tgt := 10) hx hb (by omega) (by omega) d_R_refuseOutside_2 (by decide) (fun c_2 => by exfalso; omega) (fun c_2 => ?_)
  refine lv_iload_n hx hb d_R_refuseOutside_5 rfl (lv_at hl 0 rfl) ?_
  refine lv_iload_n hx hb d_R_refuseOutside_6 rfl (lv_at hl 2 rfl) ?_
  refine nr_icmp_le (tgt := 20) hx hb (by omega) (by omega) d_R_refuseOutside_7 (by decide) (fun c_7 => ?_) (fun c_7 => by exfalso; omega)
  exact W.vret hx hb hr (fun t ht hW => ⟨⟨(), rfl, trivial, by rw [ht]; exact hP, hD⟩, hS.F ht⟩) hS.2.2 d_R_refuseOutside_20
set_option maxHeartbeats 4000000 in
set_option maxRecDepth 100000 in
theorem r_R_refuseFull (l : Launch) (D : va_G) (x hi : Nat) (h1 : x < hi) (h3 : hi < 2147483648) (sz : Nat) : Met l y_R_refuseFull w_R_refuseFull { frames := 0, cells := 0, slots := 0, locals := 0 } (rw_P [.int (nI x), .int (nI hi)] D ([]) ([]) sz) (rw_Qv (fun u : Unit => True) D ([]) (fun u => []) sz) 0 0 (va_A ([]) sz) := by
  refine Met.ofW (cc := b_R_refuseFull) (maxL := 2) (ret := none) (by decide) rfl ?_
  intro p e s m args below meth c s₁ B hml hv
  obtain ⟨rfl, hsz, hN, hP, hK, hD0⟩ := hv
  have hx := B.exec
  have hb := B.bytes
  have hr := B.returns
  have hts := atoms_spec (ws := w_R_refuseFull) B.pre
  have htb : ∀ w ∈ TBG, w.before [.int (nI x), .int (nI hi)].toArray s = true := fun w h => hts w (List.mem_cons_of_mem _ h)
  have hown : s.vm.findClass R_R = some m.cls := findClass_of_methodNamed B.named
  have hlocks := B.notSynchronized
  subst hsz
  have hD := hD0.self (sz := s.heap.size)
  unfold rw_Qv
  generalize hAe : va_A ([]) s.heap.size = A at hD ⊢
  have hA : ∀ q : Nat, s.heap.size ≤ q → A q := fun q h => by rw [← hAe]; exact Or.inr h
  have hS : va_S A s.heap s.heap [] := va_S.rf
  have hl := lv_entry ([.int (nI x), .int (nI hi)]) (n := 2) (Nat.le_of_ble_eq_true rfl)
  rw [lg_entry_eq]
  generalize (lg_sl ([.int (nI x), .int (nI hi)]) ++ List.replicate (2 - (lg_sl ([.int (nI x), .int (nI hi)])).length) Slot.unset).toArray = ls at hl ⊢
  have hl : lv_has ls 2 [(0, .int (nI x)), (1, .int (nI hi))] := hl
  refine nr_start hP hS (fun H locs hP hS => ?_)
  refine lv_iload_n hx hb d_R_refuseFull_0 rfl (lv_at hl 0 rfl) ?_
  refine lv_iload_n hx hb d_R_refuseFull_1 rfl (lv_at hl 1 rfl) ?_
  refine nr_icmp_lt (tgt := 15) hx hb (by omega) (by omega) d_R_refuseFull_2 (by decide) (fun c_2 => ?_) (fun c_2 => by exfalso; omega)
  exact W.vret hx hb hr (fun t ht hW => ⟨⟨(), rfl, trivial, by rw [ht]; exact hP, hD⟩, hS.F ht⟩) hS.2.2 d_R_refuseFull_15
set_option maxHeartbeats 4000000 in
set_option maxRecDepth 100000 in
theorem r_R_refuseSame (l : Launch) (D : va_G) (x y : Nat) (h1 : x ≠ y) (h2 : x < 2147483648) (h3 : y < 2147483648) (sz : Nat) : Met l y_R_refuseSame w_R_refuseSame { frames := 0, cells := 0, slots := 0, locals := 0 } (rw_P [.int (nI x), .int (nI y)] D ([]) ([]) sz) (rw_Qv (fun u : Unit => True) D ([]) (fun u => []) sz) 0 0 (va_A ([]) sz) := by
  refine Met.ofW (cc := b_R_refuseSame) (maxL := 2) (ret := none) (by decide) rfl ?_
  intro p e s m args below meth c s₁ B hml hv
  obtain ⟨rfl, hsz, hN, hP, hK, hD0⟩ := hv
  have hx := B.exec
  have hb := B.bytes
  have hr := B.returns
  have hts := atoms_spec (ws := w_R_refuseSame) B.pre
  have htb : ∀ w ∈ TBG, w.before [.int (nI x), .int (nI y)].toArray s = true := fun w h => hts w (List.mem_cons_of_mem _ h)
  have hown : s.vm.findClass R_R = some m.cls := findClass_of_methodNamed B.named
  have hlocks := B.notSynchronized
  subst hsz
  have hD := hD0.self (sz := s.heap.size)
  unfold rw_Qv
  generalize hAe : va_A ([]) s.heap.size = A at hD ⊢
  have hA : ∀ q : Nat, s.heap.size ≤ q → A q := fun q h => by rw [← hAe]; exact Or.inr h
  have hS : va_S A s.heap s.heap [] := va_S.rf
  have hl := lv_entry ([.int (nI x), .int (nI y)]) (n := 2) (Nat.le_of_ble_eq_true rfl)
  rw [lg_entry_eq]
  generalize (lg_sl ([.int (nI x), .int (nI y)]) ++ List.replicate (2 - (lg_sl ([.int (nI x), .int (nI y)])).length) Slot.unset).toArray = ls at hl ⊢
  have hl : lv_has ls 2 [(0, .int (nI x)), (1, .int (nI y))] := hl
  refine nr_start hP hS (fun H locs hP hS => ?_)
  refine lv_iload_n hx hb d_R_refuseSame_0 rfl (lv_at hl 0 rfl) ?_
  refine lv_iload_n hx hb d_R_refuseSame_1 rfl (lv_at hl 1 rfl) ?_
  refine nr_icmp_ne (tgt := 15) hx hb (by omega) (by omega) d_R_refuseSame_2 (by decide) (fun c_2 => ?_) (fun c_2 => by exfalso; omega)
  exact W.vret hx hb hr (fun t ht hW => ⟨⟨(), rfl, trivial, by rw [ht]; exact hP, hD⟩, hS.F ht⟩) hS.2.2 d_R_refuseSame_15
set_option maxHeartbeats 4000000 in
set_option maxRecDepth 100000 in
theorem r_R_refuseUnknownPerson (l : Launch) (D : va_G) (ad : Nat → Nat) (ca : Nat → ClassId) (P S G : Nat → Nat → Nat) (hP0 : okP P) (hS0 : okS S) (hG0 : okG G) (p1 : Nat) (hp : p1 < P 0 0) (sz : Nat) : Met l y_R_refuseUnknownPerson w_R_refuseUnknownPerson { frames := 1, cells := 0, slots := 0, locals := 22 } (rw_P [.ref (ad 0), .int (nI p1)] D (wR ad ca P S G) (tR ca) sz) (rw_Qv (fun u : Unit => True) D (wR ad ca P S G) (fun u => wR ad ca P S G) sz) 0 0 (va_A (wR ad ca P S G) sz) := by
  refine Met.ofW (cc := b_R_refuseUnknownPerson) (maxL := 2) (ret := none) (by decide) rfl ?_
  intro p e s m args below meth c s₁ B hml hv
  obtain ⟨rfl, hsz, hN, hP, hK, hD0⟩ := hv
  have hx := B.exec
  have hb := B.bytes
  have hr := B.returns
  have hts := atoms_spec (ws := w_R_refuseUnknownPerson) B.pre
  have htb : ∀ w ∈ TBG, w.before [.ref (ad 0), .int (nI p1)].toArray s = true := fun w h => hts w (List.mem_cons_of_mem _ h)
  have hown : s.vm.findClass R_R = some m.cls := findClass_of_methodNamed B.named
  have hlocks := B.notSynchronized
  subst hsz
  have hD := hD0.self (sz := s.heap.size)
  unfold rw_Qv
  generalize hAe : va_A (wR ad ca P S G) s.heap.size = A at hD ⊢
  have hA : ∀ q : Nat, s.heap.size ≤ q → A q := fun q h => by rw [← hAe]; exact Or.inr h
  have hS : va_S A s.heap s.heap [] := va_S.rf
  have hl := lv_entry ([.ref (ad 0), .int (nI p1)]) (n := 2) (Nat.le_of_ble_eq_true rfl)
  rw [lg_entry_eq]
  generalize (lg_sl ([.ref (ad 0), .int (nI p1)]) ++ List.replicate (2 - (lg_sl ([.ref (ad 0), .int (nI p1)])).length) Slot.unset).toArray = ls at hl ⊢
  have hl : lv_has ls 2 [(0, .ref (ad 0)), (1, .int (nI p1))] := hl
  refine nr_start hP hS (fun H locs hP hS => ?_)
  obtain ⟨h00, h01, h02, h03, h04, h05, hp1, hp2, hp3, hp4, hp5, hp6⟩ := id hP0
  obtain ⟨g00, g01, g02, g03, g04, g05, g06, hs1, hs2, hs3, hs4, hs5, hs6, hs7⟩ := id hS0
  obtain ⟨k00, k01, hg1, hg2⟩ := id hG0
  refine lv_iload_n hx hb d_R_refuseUnknownPerson_0 rfl (lv_at hl 1 rfl) ?_
  refine nr_iconst hx hb 0 d_R_refuseUnknownPerson_1 (by decide) ?_
  refine lv_aload_n hx hb d_R_refuseUnknownPerson_2 rfl (lv_at hl 0 rfl) ?_
  refine va_get (D := D) (ci := 2) (v := .ref (ad 1)) (C := R_R) (T := F_R) (N := 6) hx hb htb u_R hown hK hP 15 rfl rfl 0 (by decide) (htb _ q134) (fun _ h9 => h9) rfl d_R_refuseUnknownPerson_3 ?_
  refine va_getN (D := D) (ci := 0) (v := .int (nI (P 0 0))) (C := R_P) (T := F_P) (N := 12) hx hb htb u_P hown hK hP 0 rfl rfl 0 (by decide) (hN.at q30 rfl rfl) (fun _ h9 => h9) rfl d_R_refuseUnknownPerson_6 ?_
  refine nr_iconst hx hb 1 d_R_refuseUnknownPerson_9 (by decide) ?_
  refine nr_isub hx hb (by omega) d_R_refuseUnknownPerson_10 ?_
  refine nr_callv (wr := ([0, 1, 2, 3, 4, 5, 6, 7, 8, 9, 10, 11, 12, 13, 14, 15, 16, 17] : List Nat).filterMap (fun i => (wR ad ca P S G : va_W)[i]?)) (va_runS (As := [.int (nI p1), .int (nI 0), .int (nI ((P 0 0) - 1))]) (rest := []) ⟨hx, hb, hml, hown, hts⟩ (r_R_refuseUnknown l D p1 0 ((P 0 0) - 1) (by omega) (by omega) (by omega) H.size) ⟨callB_of 3 hts (gTB q_R_refuseUnknown) rfl rfl rfl (htb _ q1) (htb _ q368) hd_R_refuseUnknown ⟨Nat.le_of_ble_eq_true rfl, Nat.le_of_ble_eq_true rfl⟩, (htb _ q369)⟩ ⟨rw_blind, rw_pre hN (hP.sub (ws' := []) [] rfl) (hK.sub (tys' := []) [] rfl) (hD.sub (ws' := []) [] (by decide) rfl)⟩ rfl rfl hl.1 rfl (lv_room (Nat.le_of_ble_eq_true rfl)) d_R_refuseUnknownPerson_11 ⟨Nat.le_of_ble_eq_true rfl, Nat.le_of_ble_eq_true rfl⟩) hP hD hS hA [] [0, 1, 2, 3, 4, 5, 6, 7, 8, 9, 10, 11, 12, 13, 14, 15, 16, 17] rfl rfl (by decide) (by decide) (fun u_1 H locs hu_1 hP hD hS => ?_)
  replace hP := hP.sub (ws' := wR ad ca P S G) [0, 1, 2, 3, 4, 5, 6, 7, 8, 9, 10, 11, 12, 13, 14, 15, 16, 17] rfl
  replace hD := hD.sub (ws' := wR ad ca P S G) [0, 1, 2, 3, 4, 5, 6, 7, 8, 9, 10, 11, 12, 13, 14, 15, 16, 17] (by decide) rfl
  exact W.vret hx hb hr (fun t ht hW => ⟨⟨(), rfl, trivial, by rw [ht]; exact hP, hD⟩, hS.F ht⟩) hS.2.2 d_R_refuseUnknownPerson_14
set_option maxHeartbeats 4000000 in
set_option maxRecDepth 100000 in
theorem r_R_refuseUnknownDay (l : Launch) (D : va_G) (ad : Nat → Nat) (ca : Nat → ClassId) (P S G : Nat → Nat → Nat) (hP0 : okP P) (hS0 : okS S) (hG0 : okG G) (d : Nat) (hd : d < P 0 1) (sz : Nat) : Met l y_R_refuseUnknownDay w_R_refuseUnknownDay { frames := 1, cells := 0, slots := 0, locals := 22 } (rw_P [.ref (ad 0), .int (nI d)] D (wR ad ca P S G) (tR ca) sz) (rw_Qv (fun u : Unit => True) D (wR ad ca P S G) (fun u => wR ad ca P S G) sz) 0 0 (va_A (wR ad ca P S G) sz) := by
  refine Met.ofW (cc := b_R_refuseUnknownDay) (maxL := 2) (ret := none) (by decide) rfl ?_
  intro p e s m args below meth c s₁ B hml hv
  obtain ⟨rfl, hsz, hN, hP, hK, hD0⟩ := hv
  have hx := B.exec
  have hb := B.bytes
  have hr := B.returns
  have hts := atoms_spec (ws := w_R_refuseUnknownDay) B.pre
  have htb : ∀ w ∈ TBG, w.before [.ref (ad 0), .int (nI d)].toArray s = true := fun w h => hts w (List.mem_cons_of_mem _ h)
  have hown : s.vm.findClass R_R = some m.cls := findClass_of_methodNamed B.named
  have hlocks := B.notSynchronized
  subst hsz
  have hD := hD0.self (sz := s.heap.size)
  unfold rw_Qv
  generalize hAe : va_A (wR ad ca P S G) s.heap.size = A at hD ⊢
  have hA : ∀ q : Nat, s.heap.size ≤ q → A q := fun q h => by rw [← hAe]; exact Or.inr h
  have hS : va_S A s.heap s.heap [] := va_S.rf
  have hl := lv_entry ([.ref (ad 0), .int (nI d)]) (n := 2) (Nat.le_of_ble_eq_true rfl)
  rw [lg_entry_eq]
  generalize (lg_sl ([.ref (ad 0), .int (nI d)]) ++ List.replicate (2 - (lg_sl ([.ref (ad 0), .int (nI d)])).length) Slot.unset).toArray = ls at hl ⊢
  have hl : lv_has ls 2 [(0, .ref (ad 0)), (1, .int (nI d))] := hl
  refine nr_start hP hS (fun H locs hP hS => ?_)
  obtain ⟨h00, h01, h02, h03, h04, h05, hp1, hp2, hp3, hp4, hp5, hp6⟩ := id hP0
  obtain ⟨g00, g01, g02, g03, g04, g05, g06, hs1, hs2, hs3, hs4, hs5, hs6, hs7⟩ := id hS0
  obtain ⟨k00, k01, hg1, hg2⟩ := id hG0
  refine lv_iload_n hx hb d_R_refuseUnknownDay_0 rfl (lv_at hl 1 rfl) ?_
  refine nr_iconst hx hb 0 d_R_refuseUnknownDay_1 (by decide) ?_
  refine lv_aload_n hx hb d_R_refuseUnknownDay_2 rfl (lv_at hl 0 rfl) ?_
  refine va_get (D := D) (ci := 2) (v := .ref (ad 1)) (C := R_R) (T := F_R) (N := 6) hx hb htb u_R hown hK hP 15 rfl rfl 0 (by decide) (htb _ q134) (fun _ h9 => h9) rfl d_R_refuseUnknownDay_3 ?_
  refine va_getN (D := D) (ci := 0) (v := .int (nI (P 0 1))) (C := R_P) (T := F_P) (N := 12) hx hb htb u_P hown hK hP 0 rfl rfl 1 (by decide) (hN.at q33 rfl rfl) (fun _ h9 => h9) rfl d_R_refuseUnknownDay_6 ?_
  refine nr_iconst hx hb 1 d_R_refuseUnknownDay_9 (by decide) ?_
  refine nr_isub hx hb (by omega) d_R_refuseUnknownDay_10 ?_
  refine nr_callv (wr := ([0, 1, 2, 3, 4, 5, 6, 7, 8, 9, 10, 11, 12, 13, 14, 15, 16, 17] : List Nat).filterMap (fun i => (wR ad ca P S G : va_W)[i]?)) (va_runS (As := [.int (nI d), .int (nI 0), .int (nI ((P 0 1) - 1))]) (rest := []) ⟨hx, hb, hml, hown, hts⟩ (r_R_refuseUnknown l D d 0 ((P 0 1) - 1) (by omega) (by omega) (by omega) H.size) ⟨callB_of 3 hts (gTB q_R_refuseUnknown) rfl rfl rfl (htb _ q1) (htb _ q368) hd_R_refuseUnknown ⟨Nat.le_of_ble_eq_true rfl, Nat.le_of_ble_eq_true rfl⟩, (htb _ q369)⟩ ⟨rw_blind, rw_pre hN (hP.sub (ws' := []) [] rfl) (hK.sub (tys' := []) [] rfl) (hD.sub (ws' := []) [] (by decide) rfl)⟩ rfl rfl hl.1 rfl (lv_room (Nat.le_of_ble_eq_true rfl)) d_R_refuseUnknownDay_11 ⟨Nat.le_of_ble_eq_true rfl, Nat.le_of_ble_eq_true rfl⟩) hP hD hS hA [] [0, 1, 2, 3, 4, 5, 6, 7, 8, 9, 10, 11, 12, 13, 14, 15, 16, 17] rfl rfl (by decide) (by decide) (fun u_1 H locs hu_1 hP hD hS => ?_)
  replace hP := hP.sub (ws' := wR ad ca P S G) [0, 1, 2, 3, 4, 5, 6, 7, 8, 9, 10, 11, 12, 13, 14, 15, 16, 17] rfl
  replace hD := hD.sub (ws' := wR ad ca P S G) [0, 1, 2, 3, 4, 5, 6, 7, 8, 9, 10, 11, 12, 13, 14, 15, 16, 17] (by decide) rfl
  exact W.vret hx hb hr (fun t ht hW => ⟨⟨(), rfl, trivial, by rw [ht]; exact hP, hD⟩, hS.F ht⟩) hS.2.2 d_R_refuseUnknownDay_14
set_option maxHeartbeats 4000000 in
set_option maxRecDepth 100000 in
theorem r_R_refuseFrozen (l : Launch) (D : va_G) (ad : Nat → Nat) (ca : Nat → ClassId) (P S G : Nat → Nat → Nat) (hP0 : okP P) (hS0 : okS S) (hG0 : okG G) (d : Nat) (hd : d < 7) (hfr : G 0 0 ≤ d) (sz : Nat) : Met l y_R_refuseFrozen w_R_refuseFrozen { frames := 0, cells := 0, slots := 0, locals := 0 } (rw_P [.ref (ad 0), .int (nI d)] D (wR ad ca P S G) (tR ca) sz) (rw_Qv (fun u : Unit => True) D (wR ad ca P S G) (fun u => wR ad ca P S G) sz) 0 0 (va_A (wR ad ca P S G) sz) := by
  refine Met.ofW (cc := b_R_refuseFrozen) (maxL := 2) (ret := none) (by decide) rfl ?_
  intro p e s m args below meth c s₁ B hml hv
  obtain ⟨rfl, hsz, hN, hP, hK, hD0⟩ := hv
  have hx := B.exec
  have hb := B.bytes
  have hr := B.returns
  have hts := atoms_spec (ws := w_R_refuseFrozen) B.pre
  have htb : ∀ w ∈ TBG, w.before [.ref (ad 0), .int (nI d)].toArray s = true := fun w h => hts w (List.mem_cons_of_mem _ h)
  have hown : s.vm.findClass R_R = some m.cls := findClass_of_methodNamed B.named
  have hlocks := B.notSynchronized
  subst hsz
  have hD := hD0.self (sz := s.heap.size)
  unfold rw_Qv
  generalize hAe : va_A (wR ad ca P S G) s.heap.size = A at hD ⊢
  have hA : ∀ q : Nat, s.heap.size ≤ q → A q := fun q h => by rw [← hAe]; exact Or.inr h
  have hS : va_S A s.heap s.heap [] := va_S.rf
  have hl := lv_entry ([.ref (ad 0), .int (nI d)]) (n := 2) (Nat.le_of_ble_eq_true rfl)
  rw [lg_entry_eq]
  generalize (lg_sl ([.ref (ad 0), .int (nI d)]) ++ List.replicate (2 - (lg_sl ([.ref (ad 0), .int (nI d)])).length) Slot.unset).toArray = ls at hl ⊢
  have hl : lv_has ls 2 [(0, .ref (ad 0)), (1, .int (nI d))] := hl
  refine nr_start hP hS (fun H locs hP hS => ?_)
  obtain ⟨h00, h01, h02, h03, h04, h05, hp1, hp2, hp3, hp4, hp5, hp6⟩ := id hP0
  obtain ⟨g00, g01, g02, g03, g04, g05, g06, hs1, hs2, hs3, hs4, hs5, hs6, hs7⟩ := id hS0
  obtain ⟨k00, k01, hg1, hg2⟩ := id hG0
  refine lv_iload_n hx hb d_R_refuseFrozen_0 rfl (lv_at hl 1 rfl) ?_
  refine lv_aload_n hx hb d_R_refuseFrozen_1 rfl (lv_at hl 0 rfl) ?_
  refine va_get (D := D) (ci := 2) (v := .int (nI (G 0 0))) (C := R_R) (T := F_R) (N := 6) hx hb htb u_R hown hK hP 15 rfl rfl 4 (by decide) (htb _ q138) (fun _ h9 => h9) rfl d_R_refuseFrozen_2 ?_
  refine nr_icmp_ge (tgt := 18) hx hb (by omega) (by omega) d_R_refuseFrozen_5 (by decide) (fun c_5 => ?_) (fun c_5 => by exfalso; omega)
  exact W.vret hx hb hr (fun t ht hW => ⟨⟨(), rfl, trivial, by rw [ht]; exact hP, hD⟩, hS.F ht⟩) hS.2.2 d_R_refuseFrozen_18
set_option maxHeartbeats 4000000 in
set_option maxRecDepth 100000 in
theorem r_R_exchange (l : Launch) (D : va_G) (ad : Nat → Nat) (ca : Nat → ClassId) (P S G : Nat → Nat → Nat) (hP0 : okP P) (hS0 : okS S) (hG0 : okG G) (x y : Nat) (hx42 : x < 42) (hy42 : y < 42) (sz : Nat) : Met l y_R_exchange w_R_exchange { frames := 0, cells := 0, slots := 0, locals := 0 } (rw_P [.ref (ad 0), .int (nI x), .int (nI y)] D (wR ad ca P S G) (tR ca) sz) (rw_Qv (fun u : Unit => True) D (wR ad ca P S G) (fun u => wR ad ca P S (swG G x y)) sz) 0 0 (va_A (wR ad ca P S G) sz) := by
  refine Met.ofW (cc := b_R_exchange) (maxL := 4) (ret := none) (by decide) rfl ?_
  intro p e s m args below meth c s₁ B hml hv
  obtain ⟨rfl, hsz, hN, hP, hK, hD0⟩ := hv
  have hx := B.exec
  have hb := B.bytes
  have hr := B.returns
  have hts := atoms_spec (ws := w_R_exchange) B.pre
  have htb : ∀ w ∈ TBG, w.before [.ref (ad 0), .int (nI x), .int (nI y)].toArray s = true := fun w h => hts w (List.mem_cons_of_mem _ h)
  have hown : s.vm.findClass R_R = some m.cls := findClass_of_methodNamed B.named
  have hlocks := B.notSynchronized
  subst hsz
  have hD := hD0.self (sz := s.heap.size)
  unfold rw_Qv
  generalize hAe : va_A (wR ad ca P S G) s.heap.size = A at hD ⊢
  have hA : ∀ q : Nat, s.heap.size ≤ q → A q := fun q h => by rw [← hAe]; exact Or.inr h
  have hS : va_S A s.heap s.heap [] := va_S.rf
  have hl := lv_entry ([.ref (ad 0), .int (nI x), .int (nI y)]) (n := 4) (Nat.le_of_ble_eq_true rfl)
  rw [lg_entry_eq]
  generalize (lg_sl ([.ref (ad 0), .int (nI x), .int (nI y)]) ++ List.replicate (4 - (lg_sl ([.ref (ad 0), .int (nI x), .int (nI y)])).length) Slot.unset).toArray = ls at hl ⊢
  have hl : lv_has ls 4 [(0, .ref (ad 0)), (1, .int (nI x)), (2, .int (nI y))] := hl
  refine nr_start hP hS (fun H locs hP hS => ?_)
  obtain ⟨h00, h01, h02, h03, h04, h05, hp1, hp2, hp3, hp4, hp5, hp6⟩ := id hP0
  obtain ⟨g00, g01, g02, g03, g04, g05, g06, hs1, hs2, hs3, hs4, hs5, hs6, hs7⟩ := id hS0
  obtain ⟨k00, k01, hg1, hg2⟩ := id hG0
  refine lv_aload_n hx hb d_R_exchange_0 rfl (lv_at hl 0 rfl) ?_
  refine va_get (D := D) (ci := 2) (v := .ref (ad 16)) (C := R_R) (T := F_R) (N := 6) hx hb htb u_R hown hK hP 15 rfl rfl 2 (by decide) (htb _ q136) (fun _ h9 => h9) rfl d_R_exchange_1 ?_
  refine lv_iload_n hx hb d_R_exchange_4 rfl (lv_at hl 1 rfl) ?_
  refine nr_iald hx hb hK hP 16 13 rfl rfl (by omega) (by decide) d_R_exchange_5 ?_
  have hv_1 := hg1 x
  refine lv_istore_n (lv' := [(3, .int (nI (G 1 x))), (0, .ref (ad 0)), (1, .int (nI x)), (2, .int (nI y))]) hx hb d_R_exchange_6 rfl hl (by decide) rfl (fun ls hl => ?_)
  refine lv_aload_n hx hb d_R_exchange_7 rfl (lv_at hl 1 rfl) ?_
  refine va_get (D := D) (ci := 2) (v := .ref (ad 16)) (C := R_R) (T := F_R) (N := 6) hx hb htb u_R hown hK hP 15 rfl rfl 2 (by decide) (htb _ q136) (fun _ h9 => h9) rfl d_R_exchange_8 ?_
  refine lv_iload_n hx hb d_R_exchange_11 rfl (lv_at hl 2 rfl) ?_
  refine lv_aload_n hx hb d_R_exchange_12 rfl (lv_at hl 1 rfl) ?_
  refine va_get (D := D) (ci := 2) (v := .ref (ad 16)) (C := R_R) (T := F_R) (N := 6) hx hb htb u_R hown hK hP 15 rfl rfl 2 (by decide) (htb _ q136) (fun _ h9 => h9) rfl d_R_exchange_13 ?_
  refine lv_iload_n hx hb d_R_exchange_16 rfl (lv_at hl 3 rfl) ?_
  refine nr_iald hx hb hK hP 16 13 rfl rfl (by omega) (by decide) d_R_exchange_17 ?_
  have hv_2 := hg1 y
  refine nr_iast hx hb hK hP hD hS 16 13 rfl rfl (by omega) (by decide) d_R_exchange_18 (fun H locs hP hD hS => ?_)
  replace hP : va_P D cls (wR ad ca P S (up2 G 1 x (G 1 y))) H := hP
  replace hD : va_D A (wR ad ca P S (up2 G 1 x (G 1 y))) := hD
  refine lv_aload_n hx hb d_R_exchange_19 rfl (lv_at hl 1 rfl) ?_
  refine va_get (D := D) (ci := 2) (v := .ref (ad 16)) (C := R_R) (T := F_R) (N := 6) hx hb htb u_R hown hK hP 15 rfl rfl 2 (by decide) (htb _ q136) (fun _ h9 => h9) rfl d_R_exchange_20 ?_
  refine lv_iload_n hx hb d_R_exchange_23 rfl (lv_at hl 3 rfl) ?_
  refine lv_iload_n hx hb d_R_exchange_24 rfl (lv_at hl 0 rfl) ?_
  refine nr_iast hx hb hK hP hD hS 16 13 rfl rfl (by omega) (by decide) d_R_exchange_25 (fun H locs hP hD hS => ?_)
  replace hP : va_P D cls (wR ad ca P S (up2 (up2 G 1 x (G 1 y)) 1 y (G 1 x))) H := hP
  replace hD : va_D A (wR ad ca P S (up2 (up2 G 1 x (G 1 y)) 1 y (G 1 x))) := hD
  exact W.vret hx hb hr (fun t ht hW => ⟨⟨(), rfl, trivial, by rw [ht]; exact hP, hD⟩, hS.F ht⟩) hS.2.2 d_R_exchange_26

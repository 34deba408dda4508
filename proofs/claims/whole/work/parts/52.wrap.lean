/-- the class's world beside the law's array -/
abbrev wRo (ad : Nat → Nat) (ca : Nat → ClassId) (P S G : Nat → Nat → Nat) (ao : Nat) (co : ClassId) (vo : Nat → Int64) : va_W := wR ad ca P S G ++ [(ao, .inl (co, 1, .inr (.inl vo)))]
abbrev tRo (ca : Nat → ClassId) (co : ClassId) : List (ClassId × FieldType) := tR ca ++ [(co, .long)]
def lw_PW (av : List Value) (D : va_G) (ws : va_W) (tys : List (ClassId × FieldType)) (sz : Nat) : Array Value → State → Prop := va_Pc av (fun U => U.heap.size = sz ∧ NX U ∧ TX U ∧ CX U ∧ va_P D cls ws U.heap ∧ va_K D cls tys U ∧ va_D (fun _ => True) ws)
theorem lw_blind {av : List Value} {D : va_G} {ws : va_W} {tys : List (ClassId × FieldType)} {sz : Nat} : FrameBlind (lw_PW av D ws tys sz) := fun a U g mk q => ⟨q.1, q.2.1, q.2.2.1.calling, q.2.2.2.1, q.2.2.2.2.1, q.2.2.2.2.2.1, va_K.moved (u := U) (U := U.calling g mk a) (Vm.Alike.refl U.vm) q.2.2.2.2.2.2.1, q.2.2.2.2.2.2.2⟩
set_option maxHeartbeats 4000000 in
set_option maxRecDepth 100000 in
theorem o_L_days (l : Launch) (D : va_G) (ad : Nat → Nat) (ca : Nat → ClassId) (P S G : Nat → Nat → Nat) (z1 : Int32) {rmc : Room} {S1 : Type} {post : S1 → Prop} {P1 Sx G1 : S1 → Nat → Nat → Nat} (hrm : rmc.cells = 0 ∧ rmc.slots = 0 ∧ rmc.frames ≤ 10 ∧ rmc.locals ≤ 380) (hM : ∀ sz, Met l y_R_days w_R_days rmc (rw_P [.ref (ad 0), .int z1] D (wR ad ca P S G) (tR ca) sz) (rw_Qv post D (wR ad ca P S G) (fun u => wR ad ca (P1 u) (Sx u) (G1 u)) sz) 0 0 (va_A (wR ad ca P S G) sz)) (sz : Nat) : Met l y_L_days w_L_days { frames := 11, cells := 0, slots := 0, locals := 410 } (lw_PW [.ref (ad 0), .int z1] D (wR ad ca P S G) (tR ca) sz) (rw_Qi (fun (r : Int32) (u : S1) => r = nI 0 ∧ post u) D (wR ad ca P S G) (fun u => wR ad ca (P1 u) (Sx u) (G1 u)) sz) 0 0 (va_A (wR ad ca P S G) sz) := by
  refine va_MetW (cc := b_L_days) (maxL := 3) (ret := (some .int)) (by decide) rfl ?_
  intro p e s m args below meth c s₁ B hml hv
  obtain ⟨rfl, hsz, hN, hX, hCX, hP, hK, hD0⟩ := hv
  have hx := B.exec
  have hb := B.bytes
  have hr := B.returns
  have hts := atoms_spec (ws := w_L_days) B.pre
  have htb : ∀ w ∈ TBG, w.before [.ref (ad 0), .int z1].toArray s = true := fun w h => hts w (List.mem_cons_of_mem _ h)
  have hown : s.vm.findClass R_L = some m.cls := findClass_of_methodNamed B.named
  have hlocks := B.notSynchronized
  subst hsz
  have hD := hD0.self (sz := s.heap.size)
  have hPs := hP
  unfold rw_Qi
  generalize hAe : va_A (wR ad ca P S G) s.heap.size = A at hD ⊢
  have hA : ∀ q : Nat, s.heap.size ≤ q → A q := fun q h => by rw [← hAe]; exact Or.inr h
  have hS : va_S A s.heap s.heap [] := va_S.rf
  have hl := lv_entry ([.ref (ad 0), .int z1]) (n := 3) (Nat.le_of_ble_eq_true rfl)
  rw [lg_entry_eq]
  generalize (lg_sl ([.ref (ad 0), .int z1]) ++ List.replicate (3 - (lg_sl ([.ref (ad 0), .int z1])).length) Slot.unset).toArray = ls at hl ⊢
  have hl : lv_has ls 3 [(0, .ref (ad 0)), (1, .int z1)] := hl
  refine nr_start hP hS (fun H locs hP hS => ?_)
  refine lv_aload_n hx hb d_L_days_0 rfl (lv_at hl 0 rfl) ?_
  refine lv_iload_n hx hb d_L_days_1 rfl (lv_at hl 1 rfl) ?_
  refine nr_callv (wr := ([] : va_W)) (va_runV (As := [.int z1]) (rest := []) ⟨hx, hb, hml, hown, hts⟩ (hM H.size) ⟨callB_of 1 hts (gTB q_R_days) rfl hrm.1 hrm.2.1 (htb _ q1) (htb _ q240) hd_R_days ⟨by show rmc.frames + 1 ≤ 11; have := hrm.2.2.1; omega, by show 8 + (2 + 11) + rmc.locals ≤ 410; have := hrm.2.2.2; omega⟩, (htb _ q241), (htb _ q242)⟩ ⟨rw_blind, va_recv (hK.sub (tys' := []) [] rfl) hP (ci := 2) (q0 := 15) rfl rfl, rw_pre hN (hP.sub (ws' := wR ad ca P S G) [0, 1, 2, 3, 4, 5, 6, 7, 8, 9, 10, 11, 12, 13, 14, 15, 16, 17] rfl) (hK.sub (tys' := tR ca) [0, 1, 2, 3, 4, 5, 6, 7, 8, 9, 10, 11, 12, 13, 14] rfl) (hD.sub (ws' := wR ad ca P S G) [0, 1, 2, 3, 4, 5, 6, 7, 8, 9, 10, 11, 12, 13, 14, 15, 16, 17] (by decide) rfl)⟩ rfl rfl hl.1 rfl (lv_room (Nat.le_of_ble_eq_true rfl)) d_L_days_2 ⟨Nat.le_of_ble_eq_true rfl, Nat.le_of_ble_eq_true rfl⟩) hP hD hS hA [0, 1, 2, 3, 4, 5, 6, 7, 8, 9, 10, 11, 12, 13, 14, 15, 16, 17] [] rfl rfl (by decide) (by decide) (fun u H locs hu hP hD hS => ?_)
  refine lv_goto (tgt := 11) hx hb d_L_days_5 (by decide) ?_
  refine nr_iconst hx hb 0 d_L_days_11 (by decide) ?_
  exact W.iret (v := (nI 0)) hx hb hr (fun t ht hW => ⟨⟨_, u, rfl, ⟨rfl, hu⟩, by rw [ht]; exact hP, hD⟩, hS.F ht⟩) hS.2.2 d_L_days_12
set_option maxHeartbeats 4000000 in
set_option maxRecDepth 100000 in
theorem e_L_days_1 (l : Launch) (D : va_G) (ad : Nat → Nat) (ca : Nat → ClassId) (P S G : Nat → Nat → Nat) (z1 : Int32) {rmc : Room} (hrm : rmc.cells = 1 ∧ rmc.slots = 6 ∧ rmc.frames ≤ 10 ∧ rmc.locals ≤ 380) (hM : ∀ sz, MetT l y_R_days w_R_days rmc (tw_P [.ref (ad 0), .int z1] D (wR ad ca P S G) (tR ca) sz) (tqw "java/lang/IndexOutOfBoundsException" D (wR ad ca P S G)) 1 6 (va_A (wR ad ca P S G) sz)) (sz : Nat) : Met l y_L_days w_L_days { frames := 11, cells := 1, slots := 6, locals := 410 } (lw_PW [.ref (ad 0), .int z1] D (wR ad ca P S G) (tR ca) sz) (rw_Qi (fun (r : Int32) (u : Unit) => r = nI 1 ∧ True) D (wR ad ca P S G) (fun _ => wR ad ca P S G) sz) 1 6 (va_A (wR ad ca P S G) sz) := by
  refine va_MetW (cc := b_L_days) (maxL := 3) (ret := (some .int)) (by decide) rfl ?_
  intro p e s m args below meth c s₁ B hml hv
  obtain ⟨rfl, hsz, hN, hX, hCX, hP, hK, hD0⟩ := hv
  have hx := B.exec
  have hb := B.bytes
  have hr := B.returns
  have hts := atoms_spec (ws := w_L_days) B.pre
  have htb : ∀ w ∈ TBG, w.before [.ref (ad 0), .int z1].toArray s = true := fun w h => hts w (List.mem_cons_of_mem _ h)
  have hown : s.vm.findClass R_L = some m.cls := findClass_of_methodNamed B.named
  have hlocks := B.notSynchronized
  subst hsz
  have hD := hD0.self (sz := s.heap.size)
  have hPs := hP
  unfold rw_Qi
  generalize hAe : va_A (wR ad ca P S G) s.heap.size = A at hD ⊢
  have hA : ∀ q : Nat, s.heap.size ≤ q → A q := fun q h => by rw [← hAe]; exact Or.inr h
  have hS : va_S A s.heap s.heap [] := va_S.rf
  have hl := lv_entry ([.ref (ad 0), .int z1]) (n := 3) (Nat.le_of_ble_eq_true rfl)
  rw [lg_entry_eq]
  generalize (lg_sl ([.ref (ad 0), .int z1]) ++ List.replicate (3 - (lg_sl ([.ref (ad 0), .int z1])).length) Slot.unset).toArray = ls at hl ⊢
  have hl : lv_has ls 3 [(0, .ref (ad 0)), (1, .int z1)] := hl
  refine nr_start hP hS (fun H locs hP hS => ?_)
  refine lv_aload_n hx hb d_L_days_0 rfl (lv_at hl 0 rfl) ?_
  refine lv_iload_n hx hb d_L_days_1 rfl (lv_at hl 1 rfl) ?_
  refine nr_caught (wr := ([] : va_W)) (y := y_L_days) (nr_runVT (As := [.int z1]) (rest := []) ⟨hx, hb, hml, hown, hts⟩ (hM H.size).more ⟨callB_of 1 hts (gTB q_R_days) rfl hrm.1 hrm.2.1 (htb _ q1) (htb _ q240) hd_R_days ⟨by show rmc.frames + 1 ≤ 11; have := hrm.2.2.1; omega, by show 8 + (2 + 11) + rmc.locals ≤ 410; have := hrm.2.2.2; omega⟩, (htb _ q241), (htb _ q242)⟩ ⟨tw_blind, va_recv (hK.sub (tys' := []) [] rfl) hP (ci := 2) (q0 := 15) rfl rfl, fun U hU hW => ⟨rfl, by rw [hU], hN.warm hW, tx_keep hX hPs (by rw [hAe]; exact hS) U hU hW, by rw [hU]; exact (hP.sub (ws' := wR ad ca P S G) [0, 1, 2, 3, 4, 5, 6, 7, 8, 9, 10, 11, 12, 13, 14, 15, 16, 17] rfl), va_K.moved hW.alike (hK.sub (tys' := tR ca) [0, 1, 2, 3, 4, 5, 6, 7, 8, 9, 10, 11, 12, 13, 14] rfl), (hD.sub (ws' := wR ad ca P S G) [0, 1, 2, 3, 4, 5, 6, 7, 8, 9, 10, 11, 12, 13, 14, 15, 16, 17] (by decide) rfl).weaken (fun _ _ _ _ => trivial)⟩⟩ rfl rfl hl.1 rfl (lv_room (Nat.le_of_ble_eq_true rfl)) d_L_days_2 ⟨Nat.le_of_ble_eq_true rfl, Nat.le_of_ble_eq_true rfl⟩) (hts _ List.mem_cons_self) B.named hown hCX (by decide) 0 rfl (by decide) (by decide) (by decide) (htb _ q239) (hX.words _ _ x5) (fun _ h => absurd h List.not_mem_nil) hP hD hS hA (hD.sub (ws' := wR ad ca P S G) [0, 1, 2, 3, 4, 5, 6, 7, 8, 9, 10, 11, 12, 13, 14, 15, 16, 17] (by decide) rfl) [0, 1, 2, 3, 4, 5, 6, 7, 8, 9, 10, 11, 12, 13, 14, 15, 16, 17] [] rfl rfl (by decide) (by decide) (fun v H locs hP hD hS => ?_)
  refine lv_astore_n (lv' := [(2, .ref v), (0, .ref (ad 0)), (1, .int z1)]) hx hb d_L_days_8 rfl hl (by decide) rfl (fun ls hl => ?_)
  refine nr_iconst hx hb 1 d_L_days_9 (by decide) ?_
  exact W.iret (v := (nI 1)) hx hb hr (fun t ht hW => ⟨⟨_, (), rfl, ⟨rfl, trivial⟩, by rw [ht]; exact hP, hD⟩, hS.F ht⟩) hS.2.2 d_L_days_10
set_option maxHeartbeats 4000000 in
set_option maxRecDepth 100000 in
theorem o_L_person (l : Launch) (D : va_G) (ad : Nat → Nat) (ca : Nat → ClassId) (P S G : Nat → Nat → Nat) (ao : Nat) (co : ClassId) (vo : Nat → Int64) (z1 z2 : Int32) {rmc : Room} {S1 : Type} {post : Int32 → S1 → Prop} {P1 Sx G1 : S1 → Nat → Nat → Nat} (hrm : rmc.cells = 0 ∧ rmc.slots = 0 ∧ rmc.frames ≤ 10 ∧ rmc.locals ≤ 380) (hM : ∀ sz, Met l y_R_person w_R_person rmc (rw_P [.ref (ad 0), .int z1, .int z2] D (wR ad ca P S G) (tR ca) sz) (rw_Qi post D (wR ad ca P S G) (fun u => wR ad ca (P1 u) (Sx u) (G1 u)) sz) 0 0 (va_A (wR ad ca P S G) sz)) (sz : Nat) : Met l y_L_person w_L_person { frames := 11, cells := 0, slots := 0, locals := 410 } (lw_PW [.ref (ad 0), .int z1, .int z2, .ref ao] D (wRo ad ca P S G ao co vo) (tRo ca co) sz) (rw_Qi (fun (r : Int32) (u : Int32 × S1) => r = nI 0 ∧ post u.1 u.2) D (wRo ad ca P S G ao co vo) (fun u => wRo ad ca (P1 u.2) (Sx u.2) (G1 u.2) ao co (vp_updL vo 0 u.1.toInt64)) sz) 0 0 (va_A (wRo ad ca P S G ao co vo) sz) := by
  refine va_MetW (cc := b_L_person) (maxL := 5) (ret := (some .int)) (by decide) rfl ?_
  intro p e s m args below meth c s₁ B hml hv
  obtain ⟨rfl, hsz, hN, hX, hCX, hP, hK, hD0⟩ := hv
  have hx := B.exec
  have hb := B.bytes
  have hr := B.returns
  have hts := atoms_spec (ws := w_L_person) B.pre
  have htb : ∀ w ∈ TBG, w.before [.ref (ad 0), .int z1, .int z2, .ref ao].toArray s = true := fun w h => hts w (List.mem_cons_of_mem _ h)
  have hown : s.vm.findClass R_L = some m.cls := findClass_of_methodNamed B.named
  have hlocks := B.notSynchronized
  subst hsz
  have hD := hD0.self (sz := s.heap.size)
  have hPs := hP
  unfold rw_Qi
  generalize hAe : va_A (wRo ad ca P S G ao co vo) s.heap.size = A at hD ⊢
  have hA : ∀ q : Nat, s.heap.size ≤ q → A q := fun q h => by rw [← hAe]; exact Or.inr h
  have hS : va_S A s.heap s.heap [] := va_S.rf
  have hl := lv_entry ([.ref (ad 0), .int z1, .int z2, .ref ao]) (n := 5) (Nat.le_of_ble_eq_true rfl)
  rw [lg_entry_eq]
  generalize (lg_sl ([.ref (ad 0), .int z1, .int z2, .ref ao]) ++ List.replicate (5 - (lg_sl ([.ref (ad 0), .int z1, .int z2, .ref ao])).length) Slot.unset).toArray = ls at hl ⊢
  have hl : lv_has ls 5 [(0, .ref (ad 0)), (1, .int z1), (2, .int z2), (3, .ref ao)] := hl
  refine nr_start hP hS (fun H locs hP hS => ?_)
  refine lv_aload_n hx hb d_L_person_0 rfl (lv_at hl 3 rfl) ?_
  refine nr_iconst hx hb 0 d_L_person_1 (by decide) ?_
  refine lv_aload_n hx hb d_L_person_2 rfl (lv_at hl 0 rfl) ?_
  refine lv_iload_n hx hb d_L_person_3 rfl (lv_at hl 1 rfl) ?_
  refine lv_iload_n hx hb d_L_person_4 rfl (lv_at hl 2 rfl) ?_
  refine nr_callwi (wr := [(ao, .inl (co, 1, .inr (.inl vo)))]) (va_runV (As := [.int z1, .int z2]) (rest := [.int (nI 0), .ref ao]) ⟨hx, hb, hml, hown, hts⟩ (hM H.size) ⟨callB_of 2 hts (gTB q_R_person) rfl hrm.1 hrm.2.1 (htb _ q1) (htb _ q329) hd_R_person ⟨by show rmc.frames + 1 ≤ 11; have := hrm.2.2.1; omega, by show 8 + (3 + 11) + rmc.locals ≤ 410; have := hrm.2.2.2; omega⟩, (htb _ q330), (htb _ q331)⟩ ⟨rw_blind, va_recv (hK.sub (tys' := []) [] rfl) hP (ci := 2) (q0 := 15) rfl rfl, rw_pre hN (hP.sub (ws' := wR ad ca P S G) [0, 1, 2, 3, 4, 5, 6, 7, 8, 9, 10, 11, 12, 13, 14, 15, 16, 17] rfl) (hK.sub (tys' := tR ca) [0, 1, 2, 3, 4, 5, 6, 7, 8, 9, 10, 11, 12, 13, 14] rfl) (hD.sub (ws' := wR ad ca P S G) [0, 1, 2, 3, 4, 5, 6, 7, 8, 9, 10, 11, 12, 13, 14, 15, 16, 17] (by decide) rfl)⟩ rfl rfl hl.1 rfl (lv_room (Nat.le_of_ble_eq_true rfl)) d_L_person_5 ⟨Nat.le_of_ble_eq_true rfl, Nat.le_of_ble_eq_true rfl⟩) hP hD hS hA [0, 1, 2, 3, 4, 5, 6, 7, 8, 9, 10, 11, 12, 13, 14, 15, 16, 17] [18] rfl rfl (by decide) (by decide) (fun r u H locs hu hP hD hS => ?_)
  replace hP := hP.sub (ws' := wRo ad ca (P1 u) (Sx u) (G1 u) ao co vo) [1, 2, 3, 4, 5, 6, 7, 8, 9, 10, 11, 12, 13, 14, 15, 16, 17, 18, 0] rfl
  replace hD := hD.sub (ws' := wRo ad ca (P1 u) (Sx u) (G1 u) ao co vo) [1, 2, 3, 4, 5, 6, 7, 8, 9, 10, 11, 12, 13, 14, 15, 16, 17, 18, 0] (by decide) rfl
  refine lv_i2l (v := r.toInt64) hx hb d_L_person_8 rfl ?_
  refine va_last hx hb hK hP hD hS 18 15 rfl rfl (nI_in (by decide) (by decide)) d_L_person_9 (fun H locs hP hD hS => ?_)
  replace hP : va_P D cls (wRo ad ca (P1 u) (Sx u) (G1 u) ao co (vp_updL vo 0 r.toInt64)) H := hP
  replace hD : va_D A (wRo ad ca (P1 u) (Sx u) (G1 u) ao co (vp_updL vo 0 r.toInt64)) := hD
  refine lv_goto (tgt := 21) hx hb d_L_person_10 (by decide) ?_
  refine nr_iconst hx hb 0 d_L_person_21 (by decide) ?_
  exact W.iret (v := (nI 0)) hx hb hr (fun t ht hW => ⟨⟨_, (r, u), rfl, ⟨rfl, hu⟩, by rw [ht]; exact hP, hD⟩, hS.F ht⟩) hS.2.2 d_L_person_22
set_option maxHeartbeats 4000000 in
set_option maxRecDepth 100000 in
theorem e_L_person_1 (l : Launch) (D : va_G) (ad : Nat → Nat) (ca : Nat → ClassId) (P S G : Nat → Nat → Nat) (ao : Nat) (co : ClassId) (vo : Nat → Int64) (z1 z2 : Int32) {rmc : Room} (hrm : rmc.cells = 1 ∧ rmc.slots = 6 ∧ rmc.frames ≤ 10 ∧ rmc.locals ≤ 380) (hM : ∀ sz, MetT l y_R_person w_R_person rmc (tw_P [.ref (ad 0), .int z1, .int z2] D (wR ad ca P S G) (tR ca) sz) (tqw "java/lang/IndexOutOfBoundsException" D (wR ad ca P S G)) 1 6 (va_A (wR ad ca P S G) sz)) (sz : Nat) : Met l y_L_person w_L_person { frames := 11, cells := 1, slots := 6, locals := 410 } (lw_PW [.ref (ad 0), .int z1, .int z2, .ref ao] D (wRo ad ca P S G ao co vo) (tRo ca co) sz) (rw_Qi (fun (r : Int32) (u : Unit) => r = nI 1 ∧ True) D (wRo ad ca P S G ao co vo) (fun _ => wRo ad ca P S G ao co vo) sz) 1 6 (va_A (wRo ad ca P S G ao co vo) sz) := by
  refine va_MetW (cc := b_L_person) (maxL := 5) (ret := (some .int)) (by decide) rfl ?_
  intro p e s m args below meth c s₁ B hml hv
  obtain ⟨rfl, hsz, hN, hX, hCX, hP, hK, hD0⟩ := hv
  have hx := B.exec
  have hb := B.bytes
  have hr := B.returns
  have hts := atoms_spec (ws := w_L_person) B.pre
  have htb : ∀ w ∈ TBG, w.before [.ref (ad 0), .int z1, .int z2, .ref ao].toArray s = true := fun w h => hts w (List.mem_cons_of_mem _ h)
  have hown : s.vm.findClass R_L = some m.cls := findClass_of_methodNamed B.named
  have hlocks := B.notSynchronized
  subst hsz
  have hD := hD0.self (sz := s.heap.size)
  have hPs := hP
  unfold rw_Qi
  generalize hAe : va_A (wRo ad ca P S G ao co vo) s.heap.size = A at hD ⊢
  have hA : ∀ q : Nat, s.heap.size ≤ q → A q := fun q h => by rw [← hAe]; exact Or.inr h
  have hS : va_S A s.heap s.heap [] := va_S.rf
  have hl := lv_entry ([.ref (ad 0), .int z1, .int z2, .ref ao]) (n := 5) (Nat.le_of_ble_eq_true rfl)
  rw [lg_entry_eq]
  generalize (lg_sl ([.ref (ad 0), .int z1, .int z2, .ref ao]) ++ List.replicate (5 - (lg_sl ([.ref (ad 0), .int z1, .int z2, .ref ao])).length) Slot.unset).toArray = ls at hl ⊢
  have hl : lv_has ls 5 [(0, .ref (ad 0)), (1, .int z1), (2, .int z2), (3, .ref ao)] := hl
  refine nr_start hP hS (fun H locs hP hS => ?_)
  refine lv_aload_n hx hb d_L_person_0 rfl (lv_at hl 3 rfl) ?_
  refine nr_iconst hx hb 0 d_L_person_1 (by decide) ?_
  refine lv_aload_n hx hb d_L_person_2 rfl (lv_at hl 0 rfl) ?_
  refine lv_iload_n hx hb d_L_person_3 rfl (lv_at hl 1 rfl) ?_
  refine lv_iload_n hx hb d_L_person_4 rfl (lv_at hl 2 rfl) ?_
  refine nr_caught (wr := [(ao, .inl (co, 1, .inr (.inl vo)))]) (y := y_L_person) (nr_runVT (As := [.int z1, .int z2]) (rest := [.int (nI 0), .ref ao]) ⟨hx, hb, hml, hown, hts⟩ (hM H.size).more ⟨callB_of 2 hts (gTB q_R_person) rfl hrm.1 hrm.2.1 (htb _ q1) (htb _ q329) hd_R_person ⟨by show rmc.frames + 1 ≤ 11; have := hrm.2.2.1; omega, by show 8 + (3 + 11) + rmc.locals ≤ 410; have := hrm.2.2.2; omega⟩, (htb _ q330), (htb _ q331)⟩ ⟨tw_blind, va_recv (hK.sub (tys' := []) [] rfl) hP (ci := 2) (q0 := 15) rfl rfl, fun U hU hW => ⟨rfl, by rw [hU], hN.warm hW, tx_keep hX hPs (by rw [hAe]; exact hS) U hU hW, by rw [hU]; exact (hP.sub (ws' := wR ad ca P S G) [0, 1, 2, 3, 4, 5, 6, 7, 8, 9, 10, 11, 12, 13, 14, 15, 16, 17] rfl), va_K.moved hW.alike (hK.sub (tys' := tR ca) [0, 1, 2, 3, 4, 5, 6, 7, 8, 9, 10, 11, 12, 13, 14] rfl), (hD.sub (ws' := wR ad ca P S G) [0, 1, 2, 3, 4, 5, 6, 7, 8, 9, 10, 11, 12, 13, 14, 15, 16, 17] (by decide) rfl).weaken (fun _ _ _ _ => trivial)⟩⟩ rfl rfl hl.1 rfl (lv_room (Nat.le_of_ble_eq_true rfl)) d_L_person_5 ⟨Nat.le_of_ble_eq_true rfl, Nat.le_of_ble_eq_true rfl⟩) (hts _ List.mem_cons_self) B.named hown hCX (by decide) 0 rfl (by decide) (by decide) (by decide) (htb _ q239) (hX.words _ _ x5) (fun _ h => absurd h List.not_mem_nil) hP hD hS hA (hD.sub (ws' := wR ad ca P S G) [0, 1, 2, 3, 4, 5, 6, 7, 8, 9, 10, 11, 12, 13, 14, 15, 16, 17] (by decide) rfl) [0, 1, 2, 3, 4, 5, 6, 7, 8, 9, 10, 11, 12, 13, 14, 15, 16, 17] [18] rfl rfl (by decide) (by decide) (fun v H locs hP hD hS => ?_)
  replace hP := hP.sub (ws' := wRo ad ca P S G ao co vo) [1, 2, 3, 4, 5, 6, 7, 8, 9, 10, 11, 12, 13, 14, 15, 16, 17, 18, 0] rfl
  replace hD := hD.sub (ws' := wRo ad ca P S G ao co vo) [1, 2, 3, 4, 5, 6, 7, 8, 9, 10, 11, 12, 13, 14, 15, 16, 17, 18, 0] (by decide) rfl
  refine lv_astore (lv' := [(4, .ref v), (0, .ref (ad 0)), (1, .int z1), (2, .int z2), (3, .ref ao)]) hx hb d_L_person_13 hl (by decide) rfl (fun ls hl => ?_)
  refine nr_iconst hx hb 1 d_L_person_15 (by decide) ?_
  exact W.iret (v := (nI 1)) hx hb hr (fun t ht hW => ⟨⟨_, (), rfl, ⟨rfl, trivial⟩, by rw [ht]; exact hP, hD⟩, hS.F ht⟩) hS.2.2 d_L_person_16
set_option maxHeartbeats 4000000 in
set_option maxRecDepth 100000 in
theorem e_L_person_2 (l : Launch) (D : va_G) (ad : Nat → Nat) (ca : Nat → ClassId) (P S G : Nat → Nat → Nat) (ao : Nat) (co : ClassId) (vo : Nat → Int64) (z1 z2 : Int32) {rmc : Room} (hrm : rmc.cells = 1 ∧ rmc.slots = 6 ∧ rmc.frames ≤ 10 ∧ rmc.locals ≤ 380) (hM : ∀ sz, MetT l y_R_person w_R_person rmc (tw_P [.ref (ad 0), .int z1, .int z2] D (wR ad ca P S G) (tR ca) sz) (tqw "java/lang/UnsupportedOperationException" D (wR ad ca P S G)) 1 6 (va_A (wR ad ca P S G) sz)) (sz : Nat) : Met l y_L_person w_L_person { frames := 11, cells := 1, slots := 6, locals := 410 } (lw_PW [.ref (ad 0), .int z1, .int z2, .ref ao] D (wRo ad ca P S G ao co vo) (tRo ca co) sz) (rw_Qi (fun (r : Int32) (u : Unit) => r = nI 2 ∧ True) D (wRo ad ca P S G ao co vo) (fun _ => wRo ad ca P S G ao co vo) sz) 1 6 (va_A (wRo ad ca P S G ao co vo) sz) := by
  refine va_MetW (cc := b_L_person) (maxL := 5) (ret := (some .int)) (by decide) rfl ?_
  intro p e s m args below meth c s₁ B hml hv
  obtain ⟨rfl, hsz, hN, hX, hCX, hP, hK, hD0⟩ := hv
  have hx := B.exec
  have hb := B.bytes
  have hr := B.returns
  have hts := atoms_spec (ws := w_L_person) B.pre
  have htb : ∀ w ∈ TBG, w.before [.ref (ad 0), .int z1, .int z2, .ref ao].toArray s = true := fun w h => hts w (List.mem_cons_of_mem _ h)
  have hown : s.vm.findClass R_L = some m.cls := findClass_of_methodNamed B.named
  have hlocks := B.notSynchronized
  subst hsz
  have hD := hD0.self (sz := s.heap.size)
  have hPs := hP
  unfold rw_Qi
  generalize hAe : va_A (wRo ad ca P S G ao co vo) s.heap.size = A at hD ⊢
  have hA : ∀ q : Nat, s.heap.size ≤ q → A q := fun q h => by rw [← hAe]; exact Or.inr h
  have hS : va_S A s.heap s.heap [] := va_S.rf
  have hl := lv_entry ([.ref (ad 0), .int z1, .int z2, .ref ao]) (n := 5) (Nat.le_of_ble_eq_true rfl)
  rw [lg_entry_eq]
  generalize (lg_sl ([.ref (ad 0), .int z1, .int z2, .ref ao]) ++ List.replicate (5 - (lg_sl ([.ref (ad 0), .int z1, .int z2, .ref ao])).length) Slot.unset).toArray = ls at hl ⊢
  have hl : lv_has ls 5 [(0, .ref (ad 0)), (1, .int z1), (2, .int z2), (3, .ref ao)] := hl
  refine nr_start hP hS (fun H locs hP hS => ?_)
  refine lv_aload_n hx hb d_L_person_0 rfl (lv_at hl 3 rfl) ?_
  refine nr_iconst hx hb 0 d_L_person_1 (by decide) ?_
  refine lv_aload_n hx hb d_L_person_2 rfl (lv_at hl 0 rfl) ?_
  refine lv_iload_n hx hb d_L_person_3 rfl (lv_at hl 1 rfl) ?_
  refine lv_iload_n hx hb d_L_person_4 rfl (lv_at hl 2 rfl) ?_
  refine nr_caught (wr := [(ao, .inl (co, 1, .inr (.inl vo)))]) (y := y_L_person) (nr_runVT (As := [.int z1, .int z2]) (rest := [.int (nI 0), .ref ao]) ⟨hx, hb, hml, hown, hts⟩ (hM H.size).more ⟨callB_of 2 hts (gTB q_R_person) rfl hrm.1 hrm.2.1 (htb _ q1) (htb _ q329) hd_R_person ⟨by show rmc.frames + 1 ≤ 11; have := hrm.2.2.1; omega, by show 8 + (3 + 11) + rmc.locals ≤ 410; have := hrm.2.2.2; omega⟩, (htb _ q330), (htb _ q331)⟩ ⟨tw_blind, va_recv (hK.sub (tys' := []) [] rfl) hP (ci := 2) (q0 := 15) rfl rfl, fun U hU hW => ⟨rfl, by rw [hU], hN.warm hW, tx_keep hX hPs (by rw [hAe]; exact hS) U hU hW, by rw [hU]; exact (hP.sub (ws' := wR ad ca P S G) [0, 1, 2, 3, 4, 5, 6, 7, 8, 9, 10, 11, 12, 13, 14, 15, 16, 17] rfl), va_K.moved hW.alike (hK.sub (tys' := tR ca) [0, 1, 2, 3, 4, 5, 6, 7, 8, 9, 10, 11, 12, 13, 14] rfl), (hD.sub (ws' := wR ad ca P S G) [0, 1, 2, 3, 4, 5, 6, 7, 8, 9, 10, 11, 12, 13, 14, 15, 16, 17] (by decide) rfl).weaken (fun _ _ _ _ => trivial)⟩⟩ rfl rfl hl.1 rfl (lv_room (Nat.le_of_ble_eq_true rfl)) d_L_person_5 ⟨Nat.le_of_ble_eq_true rfl, Nat.le_of_ble_eq_true rfl⟩) (hts _ List.mem_cons_self) B.named hown hCX (by decide) 1 rfl (by decide) (by decide) (by decide) (htb _ q328) (hX.words _ _ x8) (List.forall_mem_cons.mpr ⟨⟨by decide, "java/lang/IndexOutOfBoundsException", by decide, by decide, (htb _ q239)⟩, (fun _ h => absurd h List.not_mem_nil)⟩) hP hD hS hA (hD.sub (ws' := wR ad ca P S G) [0, 1, 2, 3, 4, 5, 6, 7, 8, 9, 10, 11, 12, 13, 14, 15, 16, 17] (by decide) rfl) [0, 1, 2, 3, 4, 5, 6, 7, 8, 9, 10, 11, 12, 13, 14, 15, 16, 17] [18] rfl rfl (by decide) (by decide) (fun v H locs hP hD hS => ?_)
  replace hP := hP.sub (ws' := wRo ad ca P S G ao co vo) [1, 2, 3, 4, 5, 6, 7, 8, 9, 10, 11, 12, 13, 14, 15, 16, 17, 18, 0] rfl
  replace hD := hD.sub (ws' := wRo ad ca P S G ao co vo) [1, 2, 3, 4, 5, 6, 7, 8, 9, 10, 11, 12, 13, 14, 15, 16, 17, 18, 0] (by decide) rfl
  refine lv_astore (lv' := [(4, .ref v), (0, .ref (ad 0)), (1, .int z1), (2, .int z2), (3, .ref ao)]) hx hb d_L_person_17 hl (by decide) rfl (fun ls hl => ?_)
  refine nr_iconst hx hb 2 d_L_person_19 (by decide) ?_
  exact W.iret (v := (nI 2)) hx hb hr (fun t ht hW => ⟨⟨_, (), rfl, ⟨rfl, trivial⟩, by rw [ht]; exact hP, hD⟩, hS.F ht⟩) hS.2.2 d_L_person_20
set_option maxHeartbeats 4000000 in
set_option maxRecDepth 100000 in
theorem o_L_need (l : Launch) (D : va_G) (ad : Nat → Nat) (ca : Nat → ClassId) (P S G : Nat → Nat → Nat) (z1 z2 z3 z4 : Int32) {rmc : Room} {S1 : Type} {post : S1 → Prop} {P1 Sx G1 : S1 → Nat → Nat → Nat} (hrm : rmc.cells = 0 ∧ rmc.slots = 0 ∧ rmc.frames ≤ 10 ∧ rmc.locals ≤ 380) (hM : ∀ sz, Met l y_R_need w_R_need rmc (rw_P [.ref (ad 0), .int z1, .int z2, .int z3, .int z4] D (wR ad ca P S G) (tR ca) sz) (rw_Qv post D (wR ad ca P S G) (fun u => wR ad ca (P1 u) (Sx u) (G1 u)) sz) 0 0 (va_A (wR ad ca P S G) sz)) (sz : Nat) : Met l y_L_need w_L_need { frames := 11, cells := 0, slots := 0, locals := 410 } (lw_PW [.ref (ad 0), .int z1, .int z2, .int z3, .int z4] D (wR ad ca P S G) (tR ca) sz) (rw_Qi (fun (r : Int32) (u : S1) => r = nI 0 ∧ post u) D (wR ad ca P S G) (fun u => wR ad ca (P1 u) (Sx u) (G1 u)) sz) 0 0 (va_A (wR ad ca P S G) sz) := by
  refine va_MetW (cc := b_L_need) (maxL := 6) (ret := (some .int)) (by decide) rfl ?_
  intro p e s m args below meth c s₁ B hml hv
  obtain ⟨rfl, hsz, hN, hX, hCX, hP, hK, hD0⟩ := hv
  have hx := B.exec
  have hb := B.bytes
  have hr := B.returns
  have hts := atoms_spec (ws := w_L_need) B.pre
  have htb : ∀ w ∈ TBG, w.before [.ref (ad 0), .int z1, .int z2, .int z3, .int z4].toArray s = true := fun w h => hts w (List.mem_cons_of_mem _ h)
  have hown : s.vm.findClass R_L = some m.cls := findClass_of_methodNamed B.named
  have hlocks := B.notSynchronized
  subst hsz
  have hD := hD0.self (sz := s.heap.size)
  have hPs := hP
  unfold rw_Qi
  generalize hAe : va_A (wR ad ca P S G) s.heap.size = A at hD ⊢
  have hA : ∀ q : Nat, s.heap.size ≤ q → A q := fun q h => by rw [← hAe]; exact Or.inr h
  have hS : va_S A s.heap s.heap [] := va_S.rf
  have hl := lv_entry ([.ref (ad 0), .int z1, .int z2, .int z3, .int z4]) (n := 6) (Nat.le_of_ble_eq_true rfl)
  rw [lg_entry_eq]
  generalize (lg_sl ([.ref (ad 0), .int z1, .int z2, .int z3, .int z4]) ++ List.replicate (6 - (lg_sl ([.ref (ad 0), .int z1, .int z2, .int z3, .int z4])).length) Slot.unset).toArray = ls at hl ⊢
  have hl : lv_has ls 6 [(0, .ref (ad 0)), (1, .int z1), (2, .int z2), (3, .int z3), (4, .int z4)] := hl
  refine nr_start hP hS (fun H locs hP hS => ?_)
  refine lv_aload_n hx hb d_L_need_0 rfl (lv_at hl 0 rfl) ?_
  refine lv_iload_n hx hb d_L_need_1 rfl (lv_at hl 1 rfl) ?_
  refine lv_iload_n hx hb d_L_need_2 rfl (lv_at hl 2 rfl) ?_
  refine lv_iload_n hx hb d_L_need_3 rfl (lv_at hl 3 rfl) ?_
  refine lv_iload hx hb d_L_need_4 (lv_at hl 4 rfl) ?_
  refine nr_callv (wr := ([] : va_W)) (va_runV (As := [.int z1, .int z2, .int z3, .int z4]) (rest := []) ⟨hx, hb, hml, hown, hts⟩ (hM H.size) ⟨callB_of 4 hts (gTB q_R_need) rfl hrm.1 hrm.2.1 (htb _ q1) (htb _ q360) hd_R_need ⟨by show rmc.frames + 1 ≤ 11; have := hrm.2.2.1; omega, by show 8 + (5 + 11) + rmc.locals ≤ 410; have := hrm.2.2.2; omega⟩, (htb _ q361), (htb _ q362)⟩ ⟨rw_blind, va_recv (hK.sub (tys' := []) [] rfl) hP (ci := 2) (q0 := 15) rfl rfl, rw_pre hN (hP.sub (ws' := wR ad ca P S G) [0, 1, 2, 3, 4, 5, 6, 7, 8, 9, 10, 11, 12, 13, 14, 15, 16, 17] rfl) (hK.sub (tys' := tR ca) [0, 1, 2, 3, 4, 5, 6, 7, 8, 9, 10, 11, 12, 13, 14] rfl) (hD.sub (ws' := wR ad ca P S G) [0, 1, 2, 3, 4, 5, 6, 7, 8, 9, 10, 11, 12, 13, 14, 15, 16, 17] (by decide) rfl)⟩ rfl rfl hl.1 rfl (lv_room (Nat.le_of_ble_eq_true rfl)) d_L_need_6 ⟨Nat.le_of_ble_eq_true rfl, Nat.le_of_ble_eq_true rfl⟩) hP hD hS hA [0, 1, 2, 3, 4, 5, 6, 7, 8, 9, 10, 11, 12, 13, 14, 15, 16, 17] [] rfl rfl (by decide) (by decide) (fun u H locs hu hP hD hS => ?_)
  refine lv_goto (tgt := 20) hx hb d_L_need_9 (by decide) ?_
  refine nr_iconst hx hb 0 d_L_need_20 (by decide) ?_
  exact W.iret (v := (nI 0)) hx hb hr (fun t ht hW => ⟨⟨_, u, rfl, ⟨rfl, hu⟩, by rw [ht]; exact hP, hD⟩, hS.F ht⟩) hS.2.2 d_L_need_21
set_option maxHeartbeats 4000000 in
set_option maxRecDepth 100000 in
theorem e_L_need_1 (l : Launch) (D : va_G) (ad : Nat → Nat) (ca : Nat → ClassId) (P S G : Nat → Nat → Nat) (z1 z2 z3 z4 : Int32) {rmc : Room} (hrm : rmc.cells = 1 ∧ rmc.slots = 6 ∧ rmc.frames ≤ 10 ∧ rmc.locals ≤ 380) (hM : ∀ sz, MetT l y_R_need w_R_need rmc (tw_P [.ref (ad 0), .int z1, .int z2, .int z3, .int z4] D (wR ad ca P S G) (tR ca) sz) (tqw "java/lang/IllegalArgumentException" D (wR ad ca P S G)) 1 6 (va_A (wR ad ca P S G) sz)) (sz : Nat) : Met l y_L_need w_L_need { frames := 11, cells := 1, slots := 6, locals := 410 } (lw_PW [.ref (ad 0), .int z1, .int z2, .int z3, .int z4] D (wR ad ca P S G) (tR ca) sz) (rw_Qi (fun (r : Int32) (u : Unit) => r = nI 1 ∧ True) D (wR ad ca P S G) (fun _ => wR ad ca P S G) sz) 1 6 (va_A (wR ad ca P S G) sz) := by
  refine va_MetW (cc := b_L_need) (maxL := 6) (ret := (some .int)) (by decide) rfl ?_
  intro p e s m args below meth c s₁ B hml hv
  obtain ⟨rfl, hsz, hN, hX, hCX, hP, hK, hD0⟩ := hv
  have hx := B.exec
  have hb := B.bytes
  have hr := B.returns
  have hts := atoms_spec (ws := w_L_need) B.pre
  have htb : ∀ w ∈ TBG, w.before [.ref (ad 0), .int z1, .int z2, .int z3, .int z4].toArray s = true := fun w h => hts w (List.mem_cons_of_mem _ h)
  have hown : s.vm.findClass R_L = some m.cls := findClass_of_methodNamed B.named
  have hlocks := B.notSynchronized
  subst hsz
  have hD := hD0.self (sz := s.heap.size)
  have hPs := hP
  unfold rw_Qi
  generalize hAe : va_A (wR ad ca P S G) s.heap.size = A at hD ⊢
  have hA : ∀ q : Nat, s.heap.size ≤ q → A q := fun q h => by rw [← hAe]; exact Or.inr h
  have hS : va_S A s.heap s.heap [] := va_S.rf
  have hl := lv_entry ([.ref (ad 0), .int z1, .int z2, .int z3, .int z4]) (n := 6) (Nat.le_of_ble_eq_true rfl)
  rw [lg_entry_eq]
  generalize (lg_sl ([.ref (ad 0), .int z1, .int z2, .int z3, .int z4]) ++ List.replicate (6 - (lg_sl ([.ref (ad 0), .int z1, .int z2, .int z3, .int z4])).length) Slot.unset).toArray = ls at hl ⊢
  have hl : lv_has ls 6 [(0, .ref (ad 0)), (1, .int z1), (2, .int z2), (3, .int z3), (4, .int z4)] := hl
  refine nr_start hP hS (fun H locs hP hS => ?_)
  refine lv_aload_n hx hb d_L_need_0 rfl (lv_at hl 0 rfl) ?_
  refine lv_iload_n hx hb d_L_need_1 rfl (lv_at hl 1 rfl) ?_
  refine lv_iload_n hx hb d_L_need_2 rfl (lv_at hl 2 rfl) ?_
  refine lv_iload_n hx hb d_L_need_3 rfl (lv_at hl 3 rfl) ?_
  refine lv_iload hx hb d_L_need_4 (lv_at hl 4 rfl) ?_
  refine nr_caught (wr := ([] : va_W)) (y := y_L_need) (nr_runVT (As := [.int z1, .int z2, .int z3, .int z4]) (rest := []) ⟨hx, hb, hml, hown, hts⟩ (hM H.size).more ⟨callB_of 4 hts (gTB q_R_need) rfl hrm.1 hrm.2.1 (htb _ q1) (htb _ q360) hd_R_need ⟨by show rmc.frames + 1 ≤ 11; have := hrm.2.2.1; omega, by show 8 + (5 + 11) + rmc.locals ≤ 410; have := hrm.2.2.2; omega⟩, (htb _ q361), (htb _ q362)⟩ ⟨tw_blind, va_recv (hK.sub (tys' := []) [] rfl) hP (ci := 2) (q0 := 15) rfl rfl, fun U hU hW => ⟨rfl, by rw [hU], hN.warm hW, tx_keep hX hPs (by rw [hAe]; exact hS) U hU hW, by rw [hU]; exact (hP.sub (ws' := wR ad ca P S G) [0, 1, 2, 3, 4, 5, 6, 7, 8, 9, 10, 11, 12, 13, 14, 15, 16, 17] rfl), va_K.moved hW.alike (hK.sub (tys' := tR ca) [0, 1, 2, 3, 4, 5, 6, 7, 8, 9, 10, 11, 12, 13, 14] rfl), (hD.sub (ws' := wR ad ca P S G) [0, 1, 2, 3, 4, 5, 6, 7, 8, 9, 10, 11, 12, 13, 14, 15, 16, 17] (by decide) rfl).weaken (fun _ _ _ _ => trivial)⟩⟩ rfl rfl hl.1 rfl (lv_room (Nat.le_of_ble_eq_true rfl)) d_L_need_6 ⟨Nat.le_of_ble_eq_true rfl, Nat.le_of_ble_eq_true rfl⟩) (hts _ List.mem_cons_self) B.named hown hCX (by decide) 0 rfl (by decide) (by decide) (by decide) (htb _ q359) (hX.words _ _ x9) (fun _ h => absurd h List.not_mem_nil) hP hD hS hA (hD.sub (ws' := wR ad ca P S G) [0, 1, 2, 3, 4, 5, 6, 7, 8, 9, 10, 11, 12, 13, 14, 15, 16, 17] (by decide) rfl) [0, 1, 2, 3, 4, 5, 6, 7, 8, 9, 10, 11, 12, 13, 14, 15, 16, 17] [] rfl rfl (by decide) (by decide) (fun v H locs hP hD hS => ?_)
  refine lv_astore (lv' := [(5, .ref v), (0, .ref (ad 0)), (1, .int z1), (2, .int z2), (3, .int z3), (4, .int z4)]) hx hb d_L_need_12 hl (by decide) rfl (fun ls hl => ?_)
  refine nr_iconst hx hb 1 d_L_need_14 (by decide) ?_
  exact W.iret (v := (nI 1)) hx hb hr (fun t ht hW => ⟨⟨_, (), rfl, ⟨rfl, trivial⟩, by rw [ht]; exact hP, hD⟩, hS.F ht⟩) hS.2.2 d_L_need_15
set_option maxHeartbeats 4000000 in
set_option maxRecDepth 100000 in
theorem e_L_need_2 (l : Launch) (D : va_G) (ad : Nat → Nat) (ca : Nat → ClassId) (P S G : Nat → Nat → Nat) (z1 z2 z3 z4 : Int32) {rmc : Room} (hrm : rmc.cells = 1 ∧ rmc.slots = 6 ∧ rmc.frames ≤ 10 ∧ rmc.locals ≤ 380) (hM : ∀ sz, MetT l y_R_need w_R_need rmc (tw_P [.ref (ad 0), .int z1, .int z2, .int z3, .int z4] D (wR ad ca P S G) (tR ca) sz) (tqw "java/lang/IndexOutOfBoundsException" D (wR ad ca P S G)) 1 6 (va_A (wR ad ca P S G) sz)) (sz : Nat) : Met l y_L_need w_L_need { frames := 11, cells := 1, slots := 6, locals := 410 } (lw_PW [.ref (ad 0), .int z1, .int z2, .int z3, .int z4] D (wR ad ca P S G) (tR ca) sz) (rw_Qi (fun (r : Int32) (u : Unit) => r = nI 2 ∧ True) D (wR ad ca P S G) (fun _ => wR ad ca P S G) sz) 1 6 (va_A (wR ad ca P S G) sz) := by
  refine va_MetW (cc := b_L_need) (maxL := 6) (ret := (some .int)) (by decide) rfl ?_
  intro p e s m args below meth c s₁ B hml hv
  obtain ⟨rfl, hsz, hN, hX, hCX, hP, hK, hD0⟩ := hv
  have hx := B.exec
  have hb := B.bytes
  have hr := B.returns
  have hts := atoms_spec (ws := w_L_need) B.pre
  have htb : ∀ w ∈ TBG, w.before [.ref (ad 0), .int z1, .int z2, .int z3, .int z4].toArray s = true := fun w h => hts w (List.mem_cons_of_mem _ h)
  have hown : s.vm.findClass R_L = some m.cls := findClass_of_methodNamed B.named
  have hlocks := B.notSynchronized
  subst hsz
  have hD := hD0.self (sz := s.heap.size)
  have hPs := hP
  unfold rw_Qi
  generalize hAe : va_A (wR ad ca P S G) s.heap.size = A at hD ⊢
  have hA : ∀ q : Nat, s.heap.size ≤ q → A q := fun q h => by rw [← hAe]; exact Or.inr h
  have hS : va_S A s.heap s.heap [] := va_S.rf
  have hl := lv_entry ([.ref (ad 0), .int z1, .int z2, .int z3, .int z4]) (n := 6) (Nat.le_of_ble_eq_true rfl)
  rw [lg_entry_eq]
  generalize (lg_sl ([.ref (ad 0), .int z1, .int z2, .int z3, .int z4]) ++ List.replicate (6 - (lg_sl ([.ref (ad 0), .int z1, .int z2, .int z3, .int z4])).length) Slot.unset).toArray = ls at hl ⊢
  have hl : lv_has ls 6 [(0, .ref (ad 0)), (1, .int z1), (2, .int z2), (3, .int z3), (4, .int z4)] := hl
  refine nr_start hP hS (fun H locs hP hS => ?_)
  refine lv_aload_n hx hb d_L_need_0 rfl (lv_at hl 0 rfl) ?_
  refine lv_iload_n hx hb d_L_need_1 rfl (lv_at hl 1 rfl) ?_
  refine lv_iload_n hx hb d_L_need_2 rfl (lv_at hl 2 rfl) ?_
  refine lv_iload_n hx hb d_L_need_3 rfl (lv_at hl 3 rfl) ?_
  refine lv_iload hx hb d_L_need_4 (lv_at hl 4 rfl) ?_
  refine nr_caught (wr := ([] : va_W)) (y := y_L_need) (nr_runVT (As := [.int z1, .int z2, .int z3, .int z4]) (rest := []) ⟨hx, hb, hml, hown, hts⟩ (hM H.size).more ⟨callB_of 4 hts (gTB q_R_need) rfl hrm.1 hrm.2.1 (htb _ q1) (htb _ q360) hd_R_need ⟨by show rmc.frames + 1 ≤ 11; have := hrm.2.2.1; omega, by show 8 + (5 + 11) + rmc.locals ≤ 410; have := hrm.2.2.2; omega⟩, (htb _ q361), (htb _ q362)⟩ ⟨tw_blind, va_recv (hK.sub (tys' := []) [] rfl) hP (ci := 2) (q0 := 15) rfl rfl, fun U hU hW => ⟨rfl, by rw [hU], hN.warm hW, tx_keep hX hPs (by rw [hAe]; exact hS) U hU hW, by rw [hU]; exact (hP.sub (ws' := wR ad ca P S G) [0, 1, 2, 3, 4, 5, 6, 7, 8, 9, 10, 11, 12, 13, 14, 15, 16, 17] rfl), va_K.moved hW.alike (hK.sub (tys' := tR ca) [0, 1, 2, 3, 4, 5, 6, 7, 8, 9, 10, 11, 12, 13, 14] rfl), (hD.sub (ws' := wR ad ca P S G) [0, 1, 2, 3, 4, 5, 6, 7, 8, 9, 10, 11, 12, 13, 14, 15, 16, 17] (by decide) rfl).weaken (fun _ _ _ _ => trivial)⟩⟩ rfl rfl hl.1 rfl (lv_room (Nat.le_of_ble_eq_true rfl)) d_L_need_6 ⟨Nat.le_of_ble_eq_true rfl, Nat.le_of_ble_eq_true rfl⟩) (hts _ List.mem_cons_self) B.named hown hCX (by decide) 1 rfl (by decide) (by decide) (by decide) (htb _ q239) (hX.words _ _ x5) (List.forall_mem_cons.mpr ⟨⟨by decide, "java/lang/IllegalArgumentException", by decide, by decide, (htb _ q359)⟩, (fun _ h => absurd h List.not_mem_nil)⟩) hP hD hS hA (hD.sub (ws' := wR ad ca P S G) [0, 1, 2, 3, 4, 5, 6, 7, 8, 9, 10, 11, 12, 13, 14, 15, 16, 17] (by decide) rfl) [0, 1, 2, 3, 4, 5, 6, 7, 8, 9, 10, 11, 12, 13, 14, 15, 16, 17] [] rfl rfl (by decide) (by decide) (fun v H locs hP hD hS => ?_)
  refine lv_astore (lv' := [(5, .ref v), (0, .ref (ad 0)), (1, .int z1), (2, .int z2), (3, .int z3), (4, .int z4)]) hx hb d_L_need_16 hl (by decide) rfl (fun ls hl => ?_)
  refine nr_iconst hx hb 2 d_L_need_18 (by decide) ?_
  exact W.iret (v := (nI 2)) hx hb hr (fun t ht hW => ⟨⟨_, (), rfl, ⟨rfl, trivial⟩, by rw [ht]; exact hP, hD⟩, hS.F ht⟩) hS.2.2 d_L_need_19
set_option maxHeartbeats 4000000 in
set_option maxRecDepth 100000 in
theorem o_L_rules (l : Launch) (D : va_G) (ad : Nat → Nat) (ca : Nat → ClassId) (P S G : Nat → Nat → Nat) (z1 z2 z3 : Int32) {rmc : Room} {S1 : Type} {post : S1 → Prop} {P1 Sx G1 : S1 → Nat → Nat → Nat} (hrm : rmc.cells = 0 ∧ rmc.slots = 0 ∧ rmc.frames ≤ 10 ∧ rmc.locals ≤ 380) (hM : ∀ sz, Met l y_R_rules w_R_rules rmc (rw_P [.ref (ad 0), .int z1, .int z2, .int z3] D (wR ad ca P S G) (tR ca) sz) (rw_Qv post D (wR ad ca P S G) (fun u => wR ad ca (P1 u) (Sx u) (G1 u)) sz) 0 0 (va_A (wR ad ca P S G) sz)) (sz : Nat) : Met l y_L_rules w_L_rules { frames := 11, cells := 0, slots := 0, locals := 410 } (lw_PW [.ref (ad 0), .int z1, .int z2, .int z3] D (wR ad ca P S G) (tR ca) sz) (rw_Qi (fun (r : Int32) (u : S1) => r = nI 0 ∧ post u) D (wR ad ca P S G) (fun u => wR ad ca (P1 u) (Sx u) (G1 u)) sz) 0 0 (va_A (wR ad ca P S G) sz) := by
  refine va_MetW (cc := b_L_rules) (maxL := 5) (ret := (some .int)) (by decide) rfl ?_
  intro p e s m args below meth c s₁ B hml hv
  obtain ⟨rfl, hsz, hN, hX, hCX, hP, hK, hD0⟩ := hv
  have hx := B.exec
  have hb := B.bytes
  have hr := B.returns
  have hts := atoms_spec (ws := w_L_rules) B.pre
  have htb : ∀ w ∈ TBG, w.before [.ref (ad 0), .int z1, .int z2, .int z3].toArray s = true := fun w h => hts w (List.mem_cons_of_mem _ h)
  have hown : s.vm.findClass R_L = some m.cls := findClass_of_methodNamed B.named
  have hlocks := B.notSynchronized
  subst hsz
  have hD := hD0.self (sz := s.heap.size)
  have hPs := hP
  unfold rw_Qi
  generalize hAe : va_A (wR ad ca P S G) s.heap.size = A at hD ⊢
  have hA : ∀ q : Nat, s.heap.size ≤ q → A q := fun q h => by rw [← hAe]; exact Or.inr h
  have hS : va_S A s.heap s.heap [] := va_S.rf
  have hl := lv_entry ([.ref (ad 0), .int z1, .int z2, .int z3]) (n := 5) (Nat.le_of_ble_eq_true rfl)
  rw [lg_entry_eq]
  generalize (lg_sl ([.ref (ad 0), .int z1, .int z2, .int z3]) ++ List.replicate (5 - (lg_sl ([.ref (ad 0), .int z1, .int z2, .int z3])).length) Slot.unset).toArray = ls at hl ⊢
  have hl : lv_has ls 5 [(0, .ref (ad 0)), (1, .int z1), (2, .int z2), (3, .int z3)] := hl
  refine nr_start hP hS (fun H locs hP hS => ?_)
  refine lv_aload_n hx hb d_L_rules_0 rfl (lv_at hl 0 rfl) ?_
  refine lv_iload_n hx hb d_L_rules_1 rfl (lv_at hl 1 rfl) ?_
  refine lv_iload_n hx hb d_L_rules_2 rfl (lv_at hl 2 rfl) ?_
  refine lv_iload_n hx hb d_L_rules_3 rfl (lv_at hl 3 rfl) ?_
  refine nr_callv (wr := ([] : va_W)) (va_runV (As := [.int z1, .int z2, .int z3]) (rest := []) ⟨hx, hb, hml, hown, hts⟩ (hM H.size) ⟨callB_of 3 hts (gTB q_R_rules) rfl hrm.1 hrm.2.1 (htb _ q1) (htb _ q394) hd_R_rules ⟨by show rmc.frames + 1 ≤ 11; have := hrm.2.2.1; omega, by show 8 + (4 + 11) + rmc.locals ≤ 410; have := hrm.2.2.2; omega⟩, (htb _ q395), (htb _ q396)⟩ ⟨rw_blind, va_recv (hK.sub (tys' := []) [] rfl) hP (ci := 2) (q0 := 15) rfl rfl, rw_pre hN (hP.sub (ws' := wR ad ca P S G) [0, 1, 2, 3, 4, 5, 6, 7, 8, 9, 10, 11, 12, 13, 14, 15, 16, 17] rfl) (hK.sub (tys' := tR ca) [0, 1, 2, 3, 4, 5, 6, 7, 8, 9, 10, 11, 12, 13, 14] rfl) (hD.sub (ws' := wR ad ca P S G) [0, 1, 2, 3, 4, 5, 6, 7, 8, 9, 10, 11, 12, 13, 14, 15, 16, 17] (by decide) rfl)⟩ rfl rfl hl.1 rfl (lv_room (Nat.le_of_ble_eq_true rfl)) d_L_rules_4 ⟨Nat.le_of_ble_eq_true rfl, Nat.le_of_ble_eq_true rfl⟩) hP hD hS hA [0, 1, 2, 3, 4, 5, 6, 7, 8, 9, 10, 11, 12, 13, 14, 15, 16, 17] [] rfl rfl (by decide) (by decide) (fun u H locs hu hP hD hS => ?_)
  refine lv_goto (tgt := 14) hx hb d_L_rules_7 (by decide) ?_
  refine nr_iconst hx hb 0 d_L_rules_14 (by decide) ?_
  exact W.iret (v := (nI 0)) hx hb hr (fun t ht hW => ⟨⟨_, u, rfl, ⟨rfl, hu⟩, by rw [ht]; exact hP, hD⟩, hS.F ht⟩) hS.2.2 d_L_rules_15
set_option maxHeartbeats 4000000 in
set_option maxRecDepth 100000 in
theorem e_L_rules_1 (l : Launch) (D : va_G) (ad : Nat → Nat) (ca : Nat → ClassId) (P S G : Nat → Nat → Nat) (z1 z2 z3 : Int32) {rmc : Room} (hrm : rmc.cells = 1 ∧ rmc.slots = 6 ∧ rmc.frames ≤ 10 ∧ rmc.locals ≤ 380) (hM : ∀ sz, MetT l y_R_rules w_R_rules rmc (tw_P [.ref (ad 0), .int z1, .int z2, .int z3] D (wR ad ca P S G) (tR ca) sz) (tqw "java/lang/IndexOutOfBoundsException" D (wR ad ca P S G)) 1 6 (va_A (wR ad ca P S G) sz)) (sz : Nat) : Met l y_L_rules w_L_rules { frames := 11, cells := 1, slots := 6, locals := 410 } (lw_PW [.ref (ad 0), .int z1, .int z2, .int z3] D (wR ad ca P S G) (tR ca) sz) (rw_Qi (fun (r : Int32) (u : Unit) => r = nI 1 ∧ True) D (wR ad ca P S G) (fun _ => wR ad ca P S G) sz) 1 6 (va_A (wR ad ca P S G) sz) := by
  refine va_MetW (cc := b_L_rules) (maxL := 5) (ret := (some .int)) (by decide) rfl ?_
  intro p e s m args below meth c s₁ B hml hv
  obtain ⟨rfl, hsz, hN, hX, hCX, hP, hK, hD0⟩ := hv
  have hx := B.exec
  have hb := B.bytes
  have hr := B.returns
  have hts := atoms_spec (ws := w_L_rules) B.pre
  have htb : ∀ w ∈ TBG, w.before [.ref (ad 0), .int z1, .int z2, .int z3].toArray s = true := fun w h => hts w (List.mem_cons_of_mem _ h)
  have hown : s.vm.findClass R_L = some m.cls := findClass_of_methodNamed B.named
  have hlocks := B.notSynchronized
  subst hsz
  have hD := hD0.self (sz := s.heap.size)
  have hPs := hP
  unfold rw_Qi
  generalize hAe : va_A (wR ad ca P S G) s.heap.size = A at hD ⊢
  have hA : ∀ q : Nat, s.heap.size ≤ q → A q := fun q h => by rw [← hAe]; exact Or.inr h
  have hS : va_S A s.heap s.heap [] := va_S.rf
  have hl := lv_entry ([.ref (ad 0), .int z1, .int z2, .int z3]) (n := 5) (Nat.le_of_ble_eq_true rfl)
  rw [lg_entry_eq]
  generalize (lg_sl ([.ref (ad 0), .int z1, .int z2, .int z3]) ++ List.replicate (5 - (lg_sl ([.ref (ad 0), .int z1, .int z2, .int z3])).length) Slot.unset).toArray = ls at hl ⊢
  have hl : lv_has ls 5 [(0, .ref (ad 0)), (1, .int z1), (2, .int z2), (3, .int z3)] := hl
  refine nr_start hP hS (fun H locs hP hS => ?_)
  refine lv_aload_n hx hb d_L_rules_0 rfl (lv_at hl 0 rfl) ?_
  refine lv_iload_n hx hb d_L_rules_1 rfl (lv_at hl 1 rfl) ?_
  refine lv_iload_n hx hb d_L_rules_2 rfl (lv_at hl 2 rfl) ?_
  refine lv_iload_n hx hb d_L_rules_3 rfl (lv_at hl 3 rfl) ?_
  refine nr_caught (wr := ([] : va_W)) (y := y_L_rules) (nr_runVT (As := [.int z1, .int z2, .int z3]) (rest := []) ⟨hx, hb, hml, hown, hts⟩ (hM H.size).more ⟨callB_of 3 hts (gTB q_R_rules) rfl hrm.1 hrm.2.1 (htb _ q1) (htb _ q394) hd_R_rules ⟨by show rmc.frames + 1 ≤ 11; have := hrm.2.2.1; omega, by show 8 + (4 + 11) + rmc.locals ≤ 410; have := hrm.2.2.2; omega⟩, (htb _ q395), (htb _ q396)⟩ ⟨tw_blind, va_recv (hK.sub (tys' := []) [] rfl) hP (ci := 2) (q0 := 15) rfl rfl, fun U hU hW => ⟨rfl, by rw [hU], hN.warm hW, tx_keep hX hPs (by rw [hAe]; exact hS) U hU hW, by rw [hU]; exact (hP.sub (ws' := wR ad ca P S G) [0, 1, 2, 3, 4, 5, 6, 7, 8, 9, 10, 11, 12, 13, 14, 15, 16, 17] rfl), va_K.moved hW.alike (hK.sub (tys' := tR ca) [0, 1, 2, 3, 4, 5, 6, 7, 8, 9, 10, 11, 12, 13, 14] rfl), (hD.sub (ws' := wR ad ca P S G) [0, 1, 2, 3, 4, 5, 6, 7, 8, 9, 10, 11, 12, 13, 14, 15, 16, 17] (by decide) rfl).weaken (fun _ _ _ _ => trivial)⟩⟩ rfl rfl hl.1 rfl (lv_room (Nat.le_of_ble_eq_true rfl)) d_L_rules_4 ⟨Nat.le_of_ble_eq_true rfl, Nat.le_of_ble_eq_true rfl⟩) (hts _ List.mem_cons_self) B.named hown hCX (by decide) 0 rfl (by decide) (by decide) (by decide) (htb _ q239) (hX.words _ _ x5) (fun _ h => absurd h List.not_mem_nil) hP hD hS hA (hD.sub (ws' := wR ad ca P S G) [0, 1, 2, 3, 4, 5, 6, 7, 8, 9, 10, 11, 12, 13, 14, 15, 16, 17] (by decide) rfl) [0, 1, 2, 3, 4, 5, 6, 7, 8, 9, 10, 11, 12, 13, 14, 15, 16, 17] [] rfl rfl (by decide) (by decide) (fun v H locs hP hD hS => ?_)
  refine lv_astore (lv' := [(4, .ref v), (0, .ref (ad 0)), (1, .int z1), (2, .int z2), (3, .int z3)]) hx hb d_L_rules_10 hl (by decide) rfl (fun ls hl => ?_)
  refine nr_iconst hx hb 1 d_L_rules_12 (by decide) ?_
  exact W.iret (v := (nI 1)) hx hb hr (fun t ht hW => ⟨⟨_, (), rfl, ⟨rfl, trivial⟩, by rw [ht]; exact hP, hD⟩, hS.F ht⟩) hS.2.2 d_L_rules_13
set_option maxHeartbeats 4000000 in
set_option maxRecDepth 100000 in
theorem o_L_bar (l : Launch) (D : va_G) (ad : Nat → Nat) (ca : Nat → ClassId) (P S G : Nat → Nat → Nat) (z1 z2 z3 z4 : Int32) {rmc : Room} {S1 : Type} {post : S1 → Prop} {P1 Sx G1 : S1 → Nat → Nat → Nat} (hrm : rmc.cells = 0 ∧ rmc.slots = 0 ∧ rmc.frames ≤ 10 ∧ rmc.locals ≤ 380) (hM : ∀ sz, Met l y_R_bar w_R_bar rmc (rw_P [.ref (ad 0), .int z1, .int z2, .int z3, .int z4] D (wR ad ca P S G) (tR ca) sz) (rw_Qv post D (wR ad ca P S G) (fun u => wR ad ca (P1 u) (Sx u) (G1 u)) sz) 0 0 (va_A (wR ad ca P S G) sz)) (sz : Nat) : Met l y_L_bar w_L_bar { frames := 11, cells := 0, slots := 0, locals := 410 } (lw_PW [.ref (ad 0), .int z1, .int z2, .int z3, .int z4] D (wR ad ca P S G) (tR ca) sz) (rw_Qi (fun (r : Int32) (u : S1) => r = nI 0 ∧ post u) D (wR ad ca P S G) (fun u => wR ad ca (P1 u) (Sx u) (G1 u)) sz) 0 0 (va_A (wR ad ca P S G) sz) := by
  refine va_MetW (cc := b_L_bar) (maxL := 6) (ret := (some .int)) (by decide) rfl ?_
  intro p e s m args below meth c s₁ B hml hv
  obtain ⟨rfl, hsz, hN, hX, hCX, hP, hK, hD0⟩ := hv
  have hx := B.exec
  have hb := B.bytes
  have hr := B.returns
  have hts := atoms_spec (ws := w_L_bar) B.pre
  have htb : ∀ w ∈ TBG, w.before [.ref (ad 0), .int z1, .int z2, .int z3, .int z4].toArray s = true := fun w h => hts w (List.mem_cons_of_mem _ h)
  have hown : s.vm.findClass R_L = some m.cls := findClass_of_methodNamed B.named
  have hlocks := B.notSynchronized
  subst hsz
  have hD := hD0.self (sz := s.heap.size)
  have hPs := hP
  unfold rw_Qi
  generalize hAe : va_A (wR ad ca P S G) s.heap.size = A at hD ⊢
  have hA : ∀ q : Nat, s.heap.size ≤ q → A q := fun q h => by rw [← hAe]; exact Or.inr h
  have hS : va_S A s.heap s.heap [] := va_S.rf
  have hl := lv_entry ([.ref (ad 0), .int z1, .int z2, .int z3, .int z4]) (n := 6) (Nat.le_of_ble_eq_true rfl)
  rw [lg_entry_eq]
  generalize (lg_sl ([.ref (ad 0), .int z1, .int z2, .int z3, .int z4]) ++ List.replicate (6 - (lg_sl ([.ref (ad 0), .int z1, .int z2, .int z3, .int z4])).length) Slot.unset).toArray = ls at hl ⊢
  have hl : lv_has ls 6 [(0, .ref (ad 0)), (1, .int z1), (2, .int z2), (3, .int z3), (4, .int z4)] := hl
  refine nr_start hP hS (fun H locs hP hS => ?_)
  refine lv_aload_n hx hb d_L_bar_0 rfl (lv_at hl 0 rfl) ?_
  refine lv_iload_n hx hb d_L_bar_1 rfl (lv_at hl 1 rfl) ?_
  refine lv_iload_n hx hb d_L_bar_2 rfl (lv_at hl 2 rfl) ?_
  refine lv_iload_n hx hb d_L_bar_3 rfl (lv_at hl 3 rfl) ?_
  refine lv_iload hx hb d_L_bar_4 (lv_at hl 4 rfl) ?_
  refine nr_callv (wr := ([] : va_W)) (va_runV (As := [.int z1, .int z2, .int z3, .int z4]) (rest := []) ⟨hx, hb, hml, hown, hts⟩ (hM H.size) ⟨callB_of 4 hts (gTB q_R_bar) rfl hrm.1 hrm.2.1 (htb _ q1) (htb _ q405) hd_R_bar ⟨by show rmc.frames + 1 ≤ 11; have := hrm.2.2.1; omega, by show 8 + (5 + 11) + rmc.locals ≤ 410; have := hrm.2.2.2; omega⟩, (htb _ q406), (htb _ q407)⟩ ⟨rw_blind, va_recv (hK.sub (tys' := []) [] rfl) hP (ci := 2) (q0 := 15) rfl rfl, rw_pre hN (hP.sub (ws' := wR ad ca P S G) [0, 1, 2, 3, 4, 5, 6, 7, 8, 9, 10, 11, 12, 13, 14, 15, 16, 17] rfl) (hK.sub (tys' := tR ca) [0, 1, 2, 3, 4, 5, 6, 7, 8, 9, 10, 11, 12, 13, 14] rfl) (hD.sub (ws' := wR ad ca P S G) [0, 1, 2, 3, 4, 5, 6, 7, 8, 9, 10, 11, 12, 13, 14, 15, 16, 17] (by decide) rfl)⟩ rfl rfl hl.1 rfl (lv_room (Nat.le_of_ble_eq_true rfl)) d_L_bar_6 ⟨Nat.le_of_ble_eq_true rfl, Nat.le_of_ble_eq_true rfl⟩) hP hD hS hA [0, 1, 2, 3, 4, 5, 6, 7, 8, 9, 10, 11, 12, 13, 14, 15, 16, 17] [] rfl rfl (by decide) (by decide) (fun u H locs hu hP hD hS => ?_)
  refine lv_goto (tgt := 16) hx hb d_L_bar_9 (by decide) ?_
  refine nr_iconst hx hb 0 d_L_bar_16 (by decide) ?_
  exact W.iret (v := (nI 0)) hx hb hr (fun t ht hW => ⟨⟨_, u, rfl, ⟨rfl, hu⟩, by rw [ht]; exact hP, hD⟩, hS.F ht⟩) hS.2.2 d_L_bar_17
set_option maxHeartbeats 4000000 in
set_option maxRecDepth 100000 in
theorem e_L_bar_1 (l : Launch) (D : va_G) (ad : Nat → Nat) (ca : Nat → ClassId) (P S G : Nat → Nat → Nat) (z1 z2 z3 z4 : Int32) {rmc : Room} (hrm : rmc.cells = 1 ∧ rmc.slots = 6 ∧ rmc.frames ≤ 10 ∧ rmc.locals ≤ 380) (hM : ∀ sz, MetT l y_R_bar w_R_bar rmc (tw_P [.ref (ad 0), .int z1, .int z2, .int z3, .int z4] D (wR ad ca P S G) (tR ca) sz) (tqw "java/lang/IllegalArgumentException" D (wR ad ca P S G)) 1 6 (va_A (wR ad ca P S G) sz)) (sz : Nat) : Met l y_L_bar w_L_bar { frames := 11, cells := 1, slots := 6, locals := 410 } (lw_PW [.ref (ad 0), .int z1, .int z2, .int z3, .int z4] D (wR ad ca P S G) (tR ca) sz) (rw_Qi (fun (r : Int32) (u : Unit) => r = nI 1 ∧ True) D (wR ad ca P S G) (fun _ => wR ad ca P S G) sz) 1 6 (va_A (wR ad ca P S G) sz) := by
  refine va_MetW (cc := b_L_bar) (maxL := 6) (ret := (some .int)) (by decide) rfl ?_
  intro p e s m args below meth c s₁ B hml hv
  obtain ⟨rfl, hsz, hN, hX, hCX, hP, hK, hD0⟩ := hv
  have hx := B.exec
  have hb := B.bytes
  have hr := B.returns
  have hts := atoms_spec (ws := w_L_bar) B.pre
  have htb : ∀ w ∈ TBG, w.before [.ref (ad 0), .int z1, .int z2, .int z3, .int z4].toArray s = true := fun w h => hts w (List.mem_cons_of_mem _ h)
  have hown : s.vm.findClass R_L = some m.cls := findClass_of_methodNamed B.named
  have hlocks := B.notSynchronized
  subst hsz
  have hD := hD0.self (sz := s.heap.size)
  have hPs := hP
  unfold rw_Qi
  generalize hAe : va_A (wR ad ca P S G) s.heap.size = A at hD ⊢
  have hA : ∀ q : Nat, s.heap.size ≤ q → A q := fun q h => by rw [← hAe]; exact Or.inr h
  have hS : va_S A s.heap s.heap [] := va_S.rf
  have hl := lv_entry ([.ref (ad 0), .int z1, .int z2, .int z3, .int z4]) (n := 6) (Nat.le_of_ble_eq_true rfl)
  rw [lg_entry_eq]
  generalize (lg_sl ([.ref (ad 0), .int z1, .int z2, .int z3, .int z4]) ++ List.replicate (6 - (lg_sl ([.ref (ad 0), .int z1, .int z2, .int z3, .int z4])).length) Slot.unset).toArray = ls at hl ⊢
  have hl : lv_has ls 6 [(0, .ref (ad 0)), (1, .int z1), (2, .int z2), (3, .int z3), (4, .int z4)] := hl
  refine nr_start hP hS (fun H locs hP hS => ?_)
  refine lv_aload_n hx hb d_L_bar_0 rfl (lv_at hl 0 rfl) ?_
  refine lv_iload_n hx hb d_L_bar_1 rfl (lv_at hl 1 rfl) ?_
  refine lv_iload_n hx hb d_L_bar_2 rfl (lv_at hl 2 rfl) ?_
  refine lv_iload_n hx hb d_L_bar_3 rfl (lv_at hl 3 rfl) ?_
  refine lv_iload hx hb d_L_bar_4 (lv_at hl 4 rfl) ?_
  refine nr_caught (wr := ([] : va_W)) (y := y_L_bar) (nr_runVT (As := [.int z1, .int z2, .int z3, .int z4]) (rest := []) ⟨hx, hb, hml, hown, hts⟩ (hM H.size).more ⟨callB_of 4 hts (gTB q_R_bar) rfl hrm.1 hrm.2.1 (htb _ q1) (htb _ q405) hd_R_bar ⟨by show rmc.frames + 1 ≤ 11; have := hrm.2.2.1; omega, by show 8 + (5 + 11) + rmc.locals ≤ 410; have := hrm.2.2.2; omega⟩, (htb _ q406), (htb _ q407)⟩ ⟨tw_blind, va_recv (hK.sub (tys' := []) [] rfl) hP (ci := 2) (q0 := 15) rfl rfl, fun U hU hW => ⟨rfl, by rw [hU], hN.warm hW, tx_keep hX hPs (by rw [hAe]; exact hS) U hU hW, by rw [hU]; exact (hP.sub (ws' := wR ad ca P S G) [0, 1, 2, 3, 4, 5, 6, 7, 8, 9, 10, 11, 12, 13, 14, 15, 16, 17] rfl), va_K.moved hW.alike (hK.sub (tys' := tR ca) [0, 1, 2, 3, 4, 5, 6, 7, 8, 9, 10, 11, 12, 13, 14] rfl), (hD.sub (ws' := wR ad ca P S G) [0, 1, 2, 3, 4, 5, 6, 7, 8, 9, 10, 11, 12, 13, 14, 15, 16, 17] (by decide) rfl).weaken (fun _ _ _ _ => trivial)⟩⟩ rfl rfl hl.1 rfl (lv_room (Nat.le_of_ble_eq_true rfl)) d_L_bar_6 ⟨Nat.le_of_ble_eq_true rfl, Nat.le_of_ble_eq_true rfl⟩) (hts _ List.mem_cons_self) B.named hown hCX (by decide) 0 rfl (by decide) (by decide) (by decide) (htb _ q359) (hX.words _ _ x9) (fun _ h => absurd h List.not_mem_nil) hP hD hS hA (hD.sub (ws' := wR ad ca P S G) [0, 1, 2, 3, 4, 5, 6, 7, 8, 9, 10, 11, 12, 13, 14, 15, 16, 17] (by decide) rfl) [0, 1, 2, 3, 4, 5, 6, 7, 8, 9, 10, 11, 12, 13, 14, 15, 16, 17] [] rfl rfl (by decide) (by decide) (fun v H locs hP hD hS => ?_)
  refine lv_astore (lv' := [(5, .ref v), (0, .ref (ad 0)), (1, .int z1), (2, .int z2), (3, .int z3), (4, .int z4)]) hx hb d_L_bar_12 hl (by decide) rfl (fun ls hl => ?_)
  refine nr_iconst hx hb 1 d_L_bar_14 (by decide) ?_
  exact W.iret (v := (nI 1)) hx hb hr (fun t ht hW => ⟨⟨_, (), rfl, ⟨rfl, trivial⟩, by rw [ht]; exact hP, hD⟩, hS.F ht⟩) hS.2.2 d_L_bar_15
set_option maxHeartbeats 4000000 in
set_option maxRecDepth 100000 in
theorem o_L_wish (l : Launch) (D : va_G) (ad : Nat → Nat) (ca : Nat → ClassId) (P S G : Nat → Nat → Nat) (ao : Nat) (co : ClassId) (vo : Nat → Int64) (z1 z2 z3 z4 z5 : Int32) {rmc : Room} {S1 : Type} {post : Int32 → S1 → Prop} {P1 Sx G1 : S1 → Nat → Nat → Nat} (hrm : rmc.cells = 0 ∧ rmc.slots = 0 ∧ rmc.frames ≤ 10 ∧ rmc.locals ≤ 380) (hM : ∀ sz, Met l y_R_wish w_R_wish rmc (rw_P [.ref (ad 0), .int z1, .int z2, .int z3, .int z4, .int z5] D (wR ad ca P S G) (tR ca) sz) (rw_Qi post D (wR ad ca P S G) (fun u => wR ad ca (P1 u) (Sx u) (G1 u)) sz) 0 0 (va_A (wR ad ca P S G) sz)) (sz : Nat) : Met l y_L_wish w_L_wish { frames := 11, cells := 0, slots := 0, locals := 410 } (lw_PW [.ref (ad 0), .int z1, .int z2, .int z3, .int z4, .int z5, .ref ao] D (wRo ad ca P S G ao co vo) (tRo ca co) sz) (rw_Qi (fun (r : Int32) (u : Int32 × S1) => r = nI 0 ∧ post u.1 u.2) D (wRo ad ca P S G ao co vo) (fun u => wRo ad ca (P1 u.2) (Sx u.2) (G1 u.2) ao co (vp_updL vo 0 u.1.toInt64)) sz) 0 0 (va_A (wRo ad ca P S G ao co vo) sz) := by
  refine va_MetW (cc := b_L_wish) (maxL := 8) (ret := (some .int)) (by decide) rfl ?_
  intro p e s m args below meth c s₁ B hml hv
  obtain ⟨rfl, hsz, hN, hX, hCX, hP, hK, hD0⟩ := hv
  have hx := B.exec
  have hb := B.bytes
  have hr := B.returns
  have hts := atoms_spec (ws := w_L_wish) B.pre
  have htb : ∀ w ∈ TBG, w.before [.ref (ad 0), .int z1, .int z2, .int z3, .int z4, .int z5, .ref ao].toArray s = true := fun w h => hts w (List.mem_cons_of_mem _ h)
  have hown : s.vm.findClass R_L = some m.cls := findClass_of_methodNamed B.named
  have hlocks := B.notSynchronized
  subst hsz
  have hD := hD0.self (sz := s.heap.size)
  have hPs := hP
  unfold rw_Qi
  generalize hAe : va_A (wRo ad ca P S G ao co vo) s.heap.size = A at hD ⊢
  have hA : ∀ q : Nat, s.heap.size ≤ q → A q := fun q h => by rw [← hAe]; exact Or.inr h
  have hS : va_S A s.heap s.heap [] := va_S.rf
  have hl := lv_entry ([.ref (ad 0), .int z1, .int z2, .int z3, .int z4, .int z5, .ref ao]) (n := 8) (Nat.le_of_ble_eq_true rfl)
  rw [lg_entry_eq]
  generalize (lg_sl ([.ref (ad 0), .int z1, .int z2, .int z3, .int z4, .int z5, .ref ao]) ++ List.replicate (8 - (lg_sl ([.ref (ad 0), .int z1, .int z2, .int z3, .int z4, .int z5, .ref ao])).length) Slot.unset).toArray = ls at hl ⊢
  have hl : lv_has ls 8 [(0, .ref (ad 0)), (1, .int z1), (2, .int z2), (3, .int z3), (4, .int z4), (5, .int z5), (6, .ref ao)] := hl
  refine nr_start hP hS (fun H locs hP hS => ?_)
  refine lv_aload hx hb d_L_wish_0 (lv_at hl 6 rfl) ?_
  refine nr_iconst hx hb 0 d_L_wish_2 (by decide) ?_
  refine lv_aload_n hx hb d_L_wish_3 rfl (lv_at hl 0 rfl) ?_
  refine lv_iload_n hx hb d_L_wish_4 rfl (lv_at hl 1 rfl) ?_
  refine lv_iload_n hx hb d_L_wish_5 rfl (lv_at hl 2 rfl) ?_
  refine lv_iload_n hx hb d_L_wish_6 rfl (lv_at hl 3 rfl) ?_
  refine lv_iload hx hb d_L_wish_7 (lv_at hl 4 rfl) ?_
  refine lv_iload hx hb d_L_wish_9 (lv_at hl 5 rfl) ?_
  refine nr_callwi (wr := [(ao, .inl (co, 1, .inr (.inl vo)))]) (va_runV (As := [.int z1, .int z2, .int z3, .int z4, .int z5]) (rest := [.int (nI 0), .ref ao]) ⟨hx, hb, hml, hown, hts⟩ (hM H.size) ⟨callB_of 5 hts (gTB q_R_wish) rfl hrm.1 hrm.2.1 (htb _ q1) (htb _ q418) hd_R_wish ⟨by show rmc.frames + 1 ≤ 11; have := hrm.2.2.1; omega, by show 8 + (6 + 11) + rmc.locals ≤ 410; have := hrm.2.2.2; omega⟩, (htb _ q419), (htb _ q420)⟩ ⟨rw_blind, va_recv (hK.sub (tys' := []) [] rfl) hP (ci := 2) (q0 := 15) rfl rfl, rw_pre hN (hP.sub (ws' := wR ad ca P S G) [0, 1, 2, 3, 4, 5, 6, 7, 8, 9, 10, 11, 12, 13, 14, 15, 16, 17] rfl) (hK.sub (tys' := tR ca) [0, 1, 2, 3, 4, 5, 6, 7, 8, 9, 10, 11, 12, 13, 14] rfl) (hD.sub (ws' := wR ad ca P S G) [0, 1, 2, 3, 4, 5, 6, 7, 8, 9, 10, 11, 12, 13, 14, 15, 16, 17] (by decide) rfl)⟩ rfl rfl hl.1 rfl (lv_room (Nat.le_of_ble_eq_true rfl)) d_L_wish_11 ⟨Nat.le_of_ble_eq_true rfl, Nat.le_of_ble_eq_true rfl⟩) hP hD hS hA [0, 1, 2, 3, 4, 5, 6, 7, 8, 9, 10, 11, 12, 13, 14, 15, 16, 17] [18] rfl rfl (by decide) (by decide) (fun r u H locs hu hP hD hS => ?_)
  replace hP := hP.sub (ws' := wRo ad ca (P1 u) (Sx u) (G1 u) ao co vo) [1, 2, 3, 4, 5, 6, 7, 8, 9, 10, 11, 12, 13, 14, 15, 16, 17, 18, 0] rfl
  replace hD := hD.sub (ws' := wRo ad ca (P1 u) (Sx u) (G1 u) ao co vo) [1, 2, 3, 4, 5, 6, 7, 8, 9, 10, 11, 12, 13, 14, 15, 16, 17, 18, 0] (by decide) rfl
  refine lv_i2l (v := r.toInt64) hx hb d_L_wish_14 rfl ?_
  refine va_last hx hb hK hP hD hS 18 15 rfl rfl (nI_in (by decide) (by decide)) d_L_wish_15 (fun H locs hP hD hS => ?_)
  replace hP : va_P D cls (wRo ad ca (P1 u) (Sx u) (G1 u) ao co (vp_updL vo 0 r.toInt64)) H := hP
  replace hD : va_D A (wRo ad ca (P1 u) (Sx u) (G1 u) ao co (vp_updL vo 0 r.toInt64)) := hD
  refine lv_goto (tgt := 35) hx hb d_L_wish_16 (by decide) ?_
  refine nr_iconst hx hb 0 d_L_wish_35 (by decide) ?_
  exact W.iret (v := (nI 0)) hx hb hr (fun t ht hW => ⟨⟨_, (r, u), rfl, ⟨rfl, hu⟩, by rw [ht]; exact hP, hD⟩, hS.F ht⟩) hS.2.2 d_L_wish_36
set_option maxHeartbeats 4000000 in
set_option maxRecDepth 100000 in
theorem e_L_wish_1 (l : Launch) (D : va_G) (ad : Nat → Nat) (ca : Nat → ClassId) (P S G : Nat → Nat → Nat) (ao : Nat) (co : ClassId) (vo : Nat → Int64) (z1 z2 z3 z4 z5 : Int32) {rmc : Room} (hrm : rmc.cells = 1 ∧ rmc.slots = 6 ∧ rmc.frames ≤ 10 ∧ rmc.locals ≤ 380) (hM : ∀ sz, MetT l y_R_wish w_R_wish rmc (tw_P [.ref (ad 0), .int z1, .int z2, .int z3, .int z4, .int z5] D (wR ad ca P S G) (tR ca) sz) (tqw "java/lang/IllegalArgumentException" D (wR ad ca P S G)) 1 6 (va_A (wR ad ca P S G) sz)) (sz : Nat) : Met l y_L_wish w_L_wish { frames := 11, cells := 1, slots := 6, locals := 410 } (lw_PW [.ref (ad 0), .int z1, .int z2, .int z3, .int z4, .int z5, .ref ao] D (wRo ad ca P S G ao co vo) (tRo ca co) sz) (rw_Qi (fun (r : Int32) (u : Unit) => r = nI 1 ∧ True) D (wRo ad ca P S G ao co vo) (fun _ => wRo ad ca P S G ao co vo) sz) 1 6 (va_A (wRo ad ca P S G ao co vo) sz) := by
  refine va_MetW (cc := b_L_wish) (maxL := 8) (ret := (some .int)) (by decide) rfl ?_
  intro p e s m args below meth c s₁ B hml hv
  obtain ⟨rfl, hsz, hN, hX, hCX, hP, hK, hD0⟩ := hv
  have hx := B.exec
  have hb := B.bytes
  have hr := B.returns
  have hts := atoms_spec (ws := w_L_wish) B.pre
  have htb : ∀ w ∈ TBG, w.before [.ref (ad 0), .int z1, .int z2, .int z3, .int z4, .int z5, .ref ao].toArray s = true := fun w h => hts w (List.mem_cons_of_mem _ h)
  have hown : s.vm.findClass R_L = some m.cls := findClass_of_methodNamed B.named
  have hlocks := B.notSynchronized
  subst hsz
  have hD := hD0.self (sz := s.heap.size)
  have hPs := hP
  unfold rw_Qi
  generalize hAe : va_A (wRo ad ca P S G ao co vo) s.heap.size = A at hD ⊢
  have hA : ∀ q : Nat, s.heap.size ≤ q → A q := fun q h => by rw [← hAe]; exact Or.inr h
  have hS : va_S A s.heap s.heap [] := va_S.rf
  have hl := lv_entry ([.ref (ad 0), .int z1, .int z2, .int z3, .int z4, .int z5, .ref ao]) (n := 8) (Nat.le_of_ble_eq_true rfl)
  rw [lg_entry_eq]
  generalize (lg_sl ([.ref (ad 0), .int z1, .int z2, .int z3, .int z4, .int z5, .ref ao]) ++ List.replicate (8 - (lg_sl ([.ref (ad 0), .int z1, .int z2, .int z3, .int z4, .int z5, .ref ao])).length) Slot.unset).toArray = ls at hl ⊢
  have hl : lv_has ls 8 [(0, .ref (ad 0)), (1, .int z1), (2, .int z2), (3, .int z3), (4, .int z4), (5, .int z5), (6, .ref ao)] := hl
  refine nr_start hP hS (fun H locs hP hS => ?_)
  refine lv_aload hx hb d_L_wish_0 (lv_at hl 6 rfl) ?_
  refine nr_iconst hx hb 0 d_L_wish_2 (by decide) ?_
  refine lv_aload_n hx hb d_L_wish_3 rfl (lv_at hl 0 rfl) ?_
  refine lv_iload_n hx hb d_L_wish_4 rfl (lv_at hl 1 rfl) ?_
  refine lv_iload_n hx hb d_L_wish_5 rfl (lv_at hl 2 rfl) ?_
  refine lv_iload_n hx hb d_L_wish_6 rfl (lv_at hl 3 rfl) ?_
  refine lv_iload hx hb d_L_wish_7 (lv_at hl 4 rfl) ?_
  refine lv_iload hx hb d_L_wish_9 (lv_at hl 5 rfl) ?_
  refine nr_caught (wr := [(ao, .inl (co, 1, .inr (.inl vo)))]) (y := y_L_wish) (nr_runVT (As := [.int z1, .int z2, .int z3, .int z4, .int z5]) (rest := [.int (nI 0), .ref ao]) ⟨hx, hb, hml, hown, hts⟩ (hM H.size).more ⟨callB_of 5 hts (gTB q_R_wish) rfl hrm.1 hrm.2.1 (htb _ q1) (htb _ q418) hd_R_wish ⟨by show rmc.frames + 1 ≤ 11; have := hrm.2.2.1; omega, by show 8 + (6 + 11) + rmc.locals ≤ 410; have := hrm.2.2.2; omega⟩, (htb _ q419), (htb _ q420)⟩ ⟨tw_blind, va_recv (hK.sub (tys' := []) [] rfl) hP (ci := 2) (q0 := 15) rfl rfl, fun U hU hW => ⟨rfl, by rw [hU], hN.warm hW, tx_keep hX hPs (by rw [hAe]; exact hS) U hU hW, by rw [hU]; exact (hP.sub (ws' := wR ad ca P S G) [0, 1, 2, 3, 4, 5, 6, 7, 8, 9, 10, 11, 12, 13, 14, 15, 16, 17] rfl), va_K.moved hW.alike (hK.sub (tys' := tR ca) [0, 1, 2, 3, 4, 5, 6, 7, 8, 9, 10, 11, 12, 13, 14] rfl), (hD.sub (ws' := wR ad ca P S G) [0, 1, 2, 3, 4, 5, 6, 7, 8, 9, 10, 11, 12, 13, 14, 15, 16, 17] (by decide) rfl).weaken (fun _ _ _ _ => trivial)⟩⟩ rfl rfl hl.1 rfl (lv_room (Nat.le_of_ble_eq_true rfl)) d_L_wish_11 ⟨Nat.le_of_ble_eq_true rfl, Nat.le_of_ble_eq_true rfl⟩) (hts _ List.mem_cons_self) B.named hown hCX (by decide) 0 rfl (by decide) (by decide) (by decide) (htb _ q359) (hX.words _ _ x9) (fun _ h => absurd h List.not_mem_nil) hP hD hS hA (hD.sub (ws' := wR ad ca P S G) [0, 1, 2, 3, 4, 5, 6, 7, 8, 9, 10, 11, 12, 13, 14, 15, 16, 17] (by decide) rfl) [0, 1, 2, 3, 4, 5, 6, 7, 8, 9, 10, 11, 12, 13, 14, 15, 16, 17] [18] rfl rfl (by decide) (by decide) (fun v H locs hP hD hS => ?_)
  replace hP := hP.sub (ws' := wRo ad ca P S G ao co vo) [1, 2, 3, 4, 5, 6, 7, 8, 9, 10, 11, 12, 13, 14, 15, 16, 17, 18, 0] rfl
  replace hD := hD.sub (ws' := wRo ad ca P S G ao co vo) [1, 2, 3, 4, 5, 6, 7, 8, 9, 10, 11, 12, 13, 14, 15, 16, 17, 18, 0] (by decide) rfl
  refine lv_astore (lv' := [(7, .ref v), (0, .ref (ad 0)), (1, .int z1), (2, .int z2), (3, .int z3), (4, .int z4), (5, .int z5), (6, .ref ao)]) hx hb d_L_wish_19 hl (by decide) rfl (fun ls hl => ?_)
  refine nr_iconst hx hb 1 d_L_wish_21 (by decide) ?_
  exact W.iret (v := (nI 1)) hx hb hr (fun t ht hW => ⟨⟨_, (), rfl, ⟨rfl, trivial⟩, by rw [ht]; exact hP, hD⟩, hS.F ht⟩) hS.2.2 d_L_wish_22
set_option maxHeartbeats 4000000 in
set_option maxRecDepth 100000 in
theorem e_L_wish_2 (l : Launch) (D : va_G) (ad : Nat → Nat) (ca : Nat → ClassId) (P S G : Nat → Nat → Nat) (ao : Nat) (co : ClassId) (vo : Nat → Int64) (z1 z2 z3 z4 z5 : Int32) {rmc : Room} (hrm : rmc.cells = 1 ∧ rmc.slots = 6 ∧ rmc.frames ≤ 10 ∧ rmc.locals ≤ 380) (hM : ∀ sz, MetT l y_R_wish w_R_wish rmc (tw_P [.ref (ad 0), .int z1, .int z2, .int z3, .int z4, .int z5] D (wR ad ca P S G) (tR ca) sz) (tqw "java/lang/IndexOutOfBoundsException" D (wR ad ca P S G)) 1 6 (va_A (wR ad ca P S G) sz)) (sz : Nat) : Met l y_L_wish w_L_wish { frames := 11, cells := 1, slots := 6, locals := 410 } (lw_PW [.ref (ad 0), .int z1, .int z2, .int z3, .int z4, .int z5, .ref ao] D (wRo ad ca P S G ao co vo) (tRo ca co) sz) (rw_Qi (fun (r : Int32) (u : Unit) => r = nI 2 ∧ True) D (wRo ad ca P S G ao co vo) (fun _ => wRo ad ca P S G ao co vo) sz) 1 6 (va_A (wRo ad ca P S G ao co vo) sz) := by
  refine va_MetW (cc := b_L_wish) (maxL := 8) (ret := (some .int)) (by decide) rfl ?_
  intro p e s m args below meth c s₁ B hml hv
  obtain ⟨rfl, hsz, hN, hX, hCX, hP, hK, hD0⟩ := hv
  have hx := B.exec
  have hb := B.bytes
  have hr := B.returns
  have hts := atoms_spec (ws := w_L_wish) B.pre
  have htb : ∀ w ∈ TBG, w.before [.ref (ad 0), .int z1, .int z2, .int z3, .int z4, .int z5, .ref ao].toArray s = true := fun w h => hts w (List.mem_cons_of_mem _ h)
  have hown : s.vm.findClass R_L = some m.cls := findClass_of_methodNamed B.named
  have hlocks := B.notSynchronized
  subst hsz
  have hD := hD0.self (sz := s.heap.size)
  have hPs := hP
  unfold rw_Qi
  generalize hAe : va_A (wRo ad ca P S G ao co vo) s.heap.size = A at hD ⊢
  have hA : ∀ q : Nat, s.heap.size ≤ q → A q := fun q h => by rw [← hAe]; exact Or.inr h
  have hS : va_S A s.heap s.heap [] := va_S.rf
  have hl := lv_entry ([.ref (ad 0), .int z1, .int z2, .int z3, .int z4, .int z5, .ref ao]) (n := 8) (Nat.le_of_ble_eq_true rfl)
  rw [lg_entry_eq]
  generalize (lg_sl ([.ref (ad 0), .int z1, .int z2, .int z3, .int z4, .int z5, .ref ao]) ++ List.replicate (8 - (lg_sl ([.ref (ad 0), .int z1, .int z2, .int z3, .int z4, .int z5, .ref ao])).length) Slot.unset).toArray = ls at hl ⊢
  have hl : lv_has ls 8 [(0, .ref (ad 0)), (1, .int z1), (2, .int z2), (3, .int z3), (4, .int z4), (5, .int z5), (6, .ref ao)] := hl
  refine nr_start hP hS (fun H locs hP hS => ?_)
  refine lv_aload hx hb d_L_wish_0 (lv_at hl 6 rfl) ?_
  refine nr_iconst hx hb 0 d_L_wish_2 (by decide) ?_
  refine lv_aload_n hx hb d_L_wish_3 rfl (lv_at hl 0 rfl) ?_
  refine lv_iload_n hx hb d_L_wish_4 rfl (lv_at hl 1 rfl) ?_
  refine lv_iload_n hx hb d_L_wish_5 rfl (lv_at hl 2 rfl) ?_
  refine lv_iload_n hx hb d_L_wish_6 rfl (lv_at hl 3 rfl) ?_
  refine lv_iload hx hb d_L_wish_7 (lv_at hl 4 rfl) ?_
  refine lv_iload hx hb d_L_wish_9 (lv_at hl 5 rfl) ?_
  refine nr_caught (wr := [(ao, .inl (co, 1, .inr (.inl vo)))]) (y := y_L_wish) (nr_runVT (As := [.int z1, .int z2, .int z3, .int z4, .int z5]) (rest := [.int (nI 0), .ref ao]) ⟨hx, hb, hml, hown, hts⟩ (hM H.size).more ⟨callB_of 5 hts (gTB q_R_wish) rfl hrm.1 hrm.2.1 (htb _ q1) (htb _ q418) hd_R_wish ⟨by show rmc.frames + 1 ≤ 11; have := hrm.2.2.1; omega, by show 8 + (6 + 11) + rmc.locals ≤ 410; have := hrm.2.2.2; omega⟩, (htb _ q419), (htb _ q420)⟩ ⟨tw_blind, va_recv (hK.sub (tys' := []) [] rfl) hP (ci := 2) (q0 := 15) rfl rfl, fun U hU hW => ⟨rfl, by rw [hU], hN.warm hW, tx_keep hX hPs (by rw [hAe]; exact hS) U hU hW, by rw [hU]; exact (hP.sub (ws' := wR ad ca P S G) [0, 1, 2, 3, 4, 5, 6, 7, 8, 9, 10, 11, 12, 13, 14, 15, 16, 17] rfl), va_K.moved hW.alike (hK.sub (tys' := tR ca) [0, 1, 2, 3, 4, 5, 6, 7, 8, 9, 10, 11, 12, 13, 14] rfl), (hD.sub (ws' := wR ad ca P S G) [0, 1, 2, 3, 4, 5, 6, 7, 8, 9, 10, 11, 12, 13, 14, 15, 16, 17] (by decide) rfl).weaken (fun _ _ _ _ => trivial)⟩⟩ rfl rfl hl.1 rfl (lv_room (Nat.le_of_ble_eq_true rfl)) d_L_wish_11 ⟨Nat.le_of_ble_eq_true rfl, Nat.le_of_ble_eq_true rfl⟩) (hts _ List.mem_cons_self) B.named hown hCX (by decide) 1 rfl (by decide) (by decide) (by decide) (htb _ q239) (hX.words _ _ x5) (List.forall_mem_cons.mpr ⟨⟨by decide, "java/lang/IllegalArgumentException", by decide, by decide, (htb _ q359)⟩, (fun _ h => absurd h List.not_mem_nil)⟩) hP hD hS hA (hD.sub (ws' := wR ad ca P S G) [0, 1, 2, 3, 4, 5, 6, 7, 8, 9, 10, 11, 12, 13, 14, 15, 16, 17] (by decide) rfl) [0, 1, 2, 3, 4, 5, 6, 7, 8, 9, 10, 11, 12, 13, 14, 15, 16, 17] [18] rfl rfl (by decide) (by decide) (fun v H locs hP hD hS => ?_)
  replace hP := hP.sub (ws' := wRo ad ca P S G ao co vo) [1, 2, 3, 4, 5, 6, 7, 8, 9, 10, 11, 12, 13, 14, 15, 16, 17, 18, 0] rfl
  replace hD := hD.sub (ws' := wRo ad ca P S G ao co vo) [1, 2, 3, 4, 5, 6, 7, 8, 9, 10, 11, 12, 13, 14, 15, 16, 17, 18, 0] (by decide) rfl
  refine lv_astore (lv' := [(7, .ref v), (0, .ref (ad 0)), (1, .int z1), (2, .int z2), (3, .int z3), (4, .int z4), (5, .int z5), (6, .ref ao)]) hx hb d_L_wish_23 hl (by decide) rfl (fun ls hl => ?_)
  refine nr_iconst hx hb 2 d_L_wish_25 (by decide) ?_
  exact W.iret (v := (nI 2)) hx hb hr (fun t ht hW => ⟨⟨_, (), rfl, ⟨rfl, trivial⟩, by rw [ht]; exact hP, hD⟩, hS.F ht⟩) hS.2.2 d_L_wish_26
set_option maxHeartbeats 4000000 in
set_option maxRecDepth 100000 in
theorem e_L_wish_3 (l : Launch) (D : va_G) (ad : Nat → Nat) (ca : Nat → ClassId) (P S G : Nat → Nat → Nat) (ao : Nat) (co : ClassId) (vo : Nat → Int64) (z1 z2 z3 z4 z5 : Int32) {rmc : Room} (hrm : rmc.cells = 1 ∧ rmc.slots = 6 ∧ rmc.frames ≤ 10 ∧ rmc.locals ≤ 380) (hM : ∀ sz, MetT l y_R_wish w_R_wish rmc (tw_P [.ref (ad 0), .int z1, .int z2, .int z3, .int z4, .int z5] D (wR ad ca P S G) (tR ca) sz) (tqw "java/lang/IllegalStateException" D (wR ad ca P S G)) 1 6 (va_A (wR ad ca P S G) sz)) (sz : Nat) : Met l y_L_wish w_L_wish { frames := 11, cells := 1, slots := 6, locals := 410 } (lw_PW [.ref (ad 0), .int z1, .int z2, .int z3, .int z4, .int z5, .ref ao] D (wRo ad ca P S G ao co vo) (tRo ca co) sz) (rw_Qi (fun (r : Int32) (u : Unit) => r = nI 3 ∧ True) D (wRo ad ca P S G ao co vo) (fun _ => wRo ad ca P S G ao co vo) sz) 1 6 (va_A (wRo ad ca P S G ao co vo) sz) := by
  refine va_MetW (cc := b_L_wish) (maxL := 8) (ret := (some .int)) (by decide) rfl ?_
  intro p e s m args below meth c s₁ B hml hv
  obtain ⟨rfl, hsz, hN, hX, hCX, hP, hK, hD0⟩ := hv
  have hx := B.exec
  have hb := B.bytes
  have hr := B.returns
  have hts := atoms_spec (ws := w_L_wish) B.pre
  have htb : ∀ w ∈ TBG, w.before [.ref (ad 0), .int z1, .int z2, .int z3, .int z4, .int z5, .ref ao].toArray s = true := fun w h => hts w (List.mem_cons_of_mem _ h)
  have hown : s.vm.findClass R_L = some m.cls := findClass_of_methodNamed B.named
  have hlocks := B.notSynchronized
  subst hsz
  have hD := hD0.self (sz := s.heap.size)
  have hPs := hP
  unfold rw_Qi
  generalize hAe : va_A (wRo ad ca P S G ao co vo) s.heap.size = A at hD ⊢
  have hA : ∀ q : Nat, s.heap.size ≤ q → A q := fun q h => by rw [← hAe]; exact Or.inr h
  have hS : va_S A s.heap s.heap [] := va_S.rf
  have hl := lv_entry ([.ref (ad 0), .int z1, .int z2, .int z3, .int z4, .int z5, .ref ao]) (n := 8) (Nat.le_of_ble_eq_true rfl)
  rw [lg_entry_eq]
  generalize (lg_sl ([.ref (ad 0), .int z1, .int z2, .int z3, .int z4, .int z5, .ref ao]) ++ List.replicate (8 - (lg_sl ([.ref (ad 0), .int z1, .int z2, .int z3, .int z4, .int z5, .ref ao])).length) Slot.unset).toArray = ls at hl ⊢
  have hl : lv_has ls 8 [(0, .ref (ad 0)), (1, .int z1), (2, .int z2), (3, .int z3), (4, .int z4), (5, .int z5), (6, .ref ao)] := hl
  refine nr_start hP hS (fun H locs hP hS => ?_)
  refine lv_aload hx hb d_L_wish_0 (lv_at hl 6 rfl) ?_
  refine nr_iconst hx hb 0 d_L_wish_2 (by decide) ?_
  refine lv_aload_n hx hb d_L_wish_3 rfl (lv_at hl 0 rfl) ?_
  refine lv_iload_n hx hb d_L_wish_4 rfl (lv_at hl 1 rfl) ?_
  refine lv_iload_n hx hb d_L_wish_5 rfl (lv_at hl 2 rfl) ?_
  refine lv_iload_n hx hb d_L_wish_6 rfl (lv_at hl 3 rfl) ?_
  refine lv_iload hx hb d_L_wish_7 (lv_at hl 4 rfl) ?_
  refine lv_iload hx hb d_L_wish_9 (lv_at hl 5 rfl) ?_
  refine nr_caught (wr := [(ao, .inl (co, 1, .inr (.inl vo)))]) (y := y_L_wish) (nr_runVT (As := [.int z1, .int z2, .int z3, .int z4, .int z5]) (rest := [.int (nI 0), .ref ao]) ⟨hx, hb, hml, hown, hts⟩ (hM H.size).more ⟨callB_of 5 hts (gTB q_R_wish) rfl hrm.1 hrm.2.1 (htb _ q1) (htb _ q418) hd_R_wish ⟨by show rmc.frames + 1 ≤ 11; have := hrm.2.2.1; omega, by show 8 + (6 + 11) + rmc.locals ≤ 410; have := hrm.2.2.2; omega⟩, (htb _ q419), (htb _ q420)⟩ ⟨tw_blind, va_recv (hK.sub (tys' := []) [] rfl) hP (ci := 2) (q0 := 15) rfl rfl, fun U hU hW => ⟨rfl, by rw [hU], hN.warm hW, tx_keep hX hPs (by rw [hAe]; exact hS) U hU hW, by rw [hU]; exact (hP.sub (ws' := wR ad ca P S G) [0, 1, 2, 3, 4, 5, 6, 7, 8, 9, 10, 11, 12, 13, 14, 15, 16, 17] rfl), va_K.moved hW.alike (hK.sub (tys' := tR ca) [0, 1, 2, 3, 4, 5, 6, 7, 8, 9, 10, 11, 12, 13, 14] rfl), (hD.sub (ws' := wR ad ca P S G) [0, 1, 2, 3, 4, 5, 6, 7, 8, 9, 10, 11, 12, 13, 14, 15, 16, 17] (by decide) rfl).weaken (fun _ _ _ _ => trivial)⟩⟩ rfl rfl hl.1 rfl (lv_room (Nat.le_of_ble_eq_true rfl)) d_L_wish_11 ⟨Nat.le_of_ble_eq_true rfl, Nat.le_of_ble_eq_true rfl⟩) (hts _ List.mem_cons_self) B.named hown hCX (by decide) 2 rfl (by decide) (by decide) (by decide) (htb _ q417) (hX.words _ _ x10) (List.forall_mem_cons.mpr ⟨⟨by decide, "java/lang/IllegalArgumentException", by decide, by decide, (htb _ q359)⟩, (List.forall_mem_cons.mpr ⟨⟨by decide, "java/lang/IndexOutOfBoundsException", by decide, by decide, (htb _ q239)⟩, (fun _ h => absurd h List.not_mem_nil)⟩)⟩) hP hD hS hA (hD.sub (ws' := wR ad ca P S G) [0, 1, 2, 3, 4, 5, 6, 7, 8, 9, 10, 11, 12, 13, 14, 15, 16, 17] (by decide) rfl) [0, 1, 2, 3, 4, 5, 6, 7, 8, 9, 10, 11, 12, 13, 14, 15, 16, 17] [18] rfl rfl (by decide) (by decide) (fun v H locs hP hD hS => ?_)
  replace hP := hP.sub (ws' := wRo ad ca P S G ao co vo) [1, 2, 3, 4, 5, 6, 7, 8, 9, 10, 11, 12, 13, 14, 15, 16, 17, 18, 0] rfl
  replace hD := hD.sub (ws' := wRo ad ca P S G ao co vo) [1, 2, 3, 4, 5, 6, 7, 8, 9, 10, 11, 12, 13, 14, 15, 16, 17, 18, 0] (by decide) rfl
  refine lv_astore (lv' := [(7, .ref v), (0, .ref (ad 0)), (1, .int z1), (2, .int z2), (3, .int z3), (4, .int z4), (5, .int z5), (6, .ref ao)]) hx hb d_L_wish_27 hl (by decide) rfl (fun ls hl => ?_)
  refine nr_iconst hx hb 3 d_L_wish_29 (by decide) ?_
  exact W.iret (v := (nI 3)) hx hb hr (fun t ht hW => ⟨⟨_, (), rfl, ⟨rfl, trivial⟩, by rw [ht]; exact hP, hD⟩, hS.F ht⟩) hS.2.2 d_L_wish_30
set_option maxHeartbeats 4000000 in
set_option maxRecDepth 100000 in
theorem e_L_wish_4 (l : Launch) (D : va_G) (ad : Nat → Nat) (ca : Nat → ClassId) (P S G : Nat → Nat → Nat) (ao : Nat) (co : ClassId) (vo : Nat → Int64) (z1 z2 z3 z4 z5 : Int32) {rmc : Room} (hrm : rmc.cells = 1 ∧ rmc.slots = 6 ∧ rmc.frames ≤ 10 ∧ rmc.locals ≤ 380) (hM : ∀ sz, MetT l y_R_wish w_R_wish rmc (tw_P [.ref (ad 0), .int z1, .int z2, .int z3, .int z4, .int z5] D (wR ad ca P S G) (tR ca) sz) (tqw "java/lang/UnsupportedOperationException" D (wR ad ca P S G)) 1 6 (va_A (wR ad ca P S G) sz)) (sz : Nat) : Met l y_L_wish w_L_wish { frames := 11, cells := 1, slots := 6, locals := 410 } (lw_PW [.ref (ad 0), .int z1, .int z2, .int z3, .int z4, .int z5, .ref ao] D (wRo ad ca P S G ao co vo) (tRo ca co) sz) (rw_Qi (fun (r : Int32) (u : Unit) => r = nI 4 ∧ True) D (wRo ad ca P S G ao co vo) (fun _ => wRo ad ca P S G ao co vo) sz) 1 6 (va_A (wRo ad ca P S G ao co vo) sz) := by
  refine va_MetW (cc := b_L_wish) (maxL := 8) (ret := (some .int)) (by decide) rfl ?_
  intro p e s m args below meth c s₁ B hml hv
  obtain ⟨rfl, hsz, hN, hX, hCX, hP, hK, hD0⟩ := hv
  have hx := B.exec
  have hb := B.bytes
  have hr := B.returns
  have hts := atoms_spec (ws := w_L_wish) B.pre
  have htb : ∀ w ∈ TBG, w.before [.ref (ad 0), .int z1, .int z2, .int z3, .int z4, .int z5, .ref ao].toArray s = true := fun w h => hts w (List.mem_cons_of_mem _ h)
  have hown : s.vm.findClass R_L = some m.cls := findClass_of_methodNamed B.named
  have hlocks := B.notSynchronized
  subst hsz
  have hD := hD0.self (sz := s.heap.size)
  have hPs := hP
  unfold rw_Qi
  generalize hAe : va_A (wRo ad ca P S G ao co vo) s.heap.size = A at hD ⊢
  have hA : ∀ q : Nat, s.heap.size ≤ q → A q := fun q h => by rw [← hAe]; exact Or.inr h
  have hS : va_S A s.heap s.heap [] := va_S.rf
  have hl := lv_entry ([.ref (ad 0), .int z1, .int z2, .int z3, .int z4, .int z5, .ref ao]) (n := 8) (Nat.le_of_ble_eq_true rfl)
  rw [lg_entry_eq]
  generalize (lg_sl ([.ref (ad 0), .int z1, .int z2, .int z3, .int z4, .int z5, .ref ao]) ++ List.replicate (8 - (lg_sl ([.ref (ad 0), .int z1, .int z2, .int z3, .int z4, .int z5, .ref ao])).length) Slot.unset).toArray = ls at hl ⊢
  have hl : lv_has ls 8 [(0, .ref (ad 0)), (1, .int z1), (2, .int z2), (3, .int z3), (4, .int z4), (5, .int z5), (6, .ref ao)] := hl
  refine nr_start hP hS (fun H locs hP hS => ?_)
  refine lv_aload hx hb d_L_wish_0 (lv_at hl 6 rfl) ?_
  refine nr_iconst hx hb 0 d_L_wish_2 (by decide) ?_
  refine lv_aload_n hx hb d_L_wish_3 rfl (lv_at hl 0 rfl) ?_
  refine lv_iload_n hx hb d_L_wish_4 rfl (lv_at hl 1 rfl) ?_
  refine lv_iload_n hx hb d_L_wish_5 rfl (lv_at hl 2 rfl) ?_
  refine lv_iload_n hx hb d_L_wish_6 rfl (lv_at hl 3 rfl) ?_
  refine lv_iload hx hb d_L_wish_7 (lv_at hl 4 rfl) ?_
  refine lv_iload hx hb d_L_wish_9 (lv_at hl 5 rfl) ?_
  refine nr_caught (wr := [(ao, .inl (co, 1, .inr (.inl vo)))]) (y := y_L_wish) (nr_runVT (As := [.int z1, .int z2, .int z3, .int z4, .int z5]) (rest := [.int (nI 0), .ref ao]) ⟨hx, hb, hml, hown, hts⟩ (hM H.size).more ⟨callB_of 5 hts (gTB q_R_wish) rfl hrm.1 hrm.2.1 (htb _ q1) (htb _ q418) hd_R_wish ⟨by show rmc.frames + 1 ≤ 11; have := hrm.2.2.1; omega, by show 8 + (6 + 11) + rmc.locals ≤ 410; have := hrm.2.2.2; omega⟩, (htb _ q419), (htb _ q420)⟩ ⟨tw_blind, va_recv (hK.sub (tys' := []) [] rfl) hP (ci := 2) (q0 := 15) rfl rfl, fun U hU hW => ⟨rfl, by rw [hU], hN.warm hW, tx_keep hX hPs (by rw [hAe]; exact hS) U hU hW, by rw [hU]; exact (hP.sub (ws' := wR ad ca P S G) [0, 1, 2, 3, 4, 5, 6, 7, 8, 9, 10, 11, 12, 13, 14, 15, 16, 17] rfl), va_K.moved hW.alike (hK.sub (tys' := tR ca) [0, 1, 2, 3, 4, 5, 6, 7, 8, 9, 10, 11, 12, 13, 14] rfl), (hD.sub (ws' := wR ad ca P S G) [0, 1, 2, 3, 4, 5, 6, 7, 8, 9, 10, 11, 12, 13, 14, 15, 16, 17] (by decide) rfl).weaken (fun _ _ _ _ => trivial)⟩⟩ rfl rfl hl.1 rfl (lv_room (Nat.le_of_ble_eq_true rfl)) d_L_wish_11 ⟨Nat.le_of_ble_eq_true rfl, Nat.le_of_ble_eq_true rfl⟩) (hts _ List.mem_cons_self) B.named hown hCX (by decide) 3 rfl (by decide) (by decide) (by decide) (htb _ q328) (hX.words _ _ x8) (List.forall_mem_cons.mpr ⟨⟨by decide, "java/lang/IllegalArgumentException", by decide, by decide, (htb _ q359)⟩, (List.forall_mem_cons.mpr ⟨⟨by decide, "java/lang/IndexOutOfBoundsException", by decide, by decide, (htb _ q239)⟩, (List.forall_mem_cons.mpr ⟨⟨by decide, "java/lang/IllegalStateException", by decide, by decide, (htb _ q417)⟩, (fun _ h => absurd h List.not_mem_nil)⟩)⟩)⟩) hP hD hS hA (hD.sub (ws' := wR ad ca P S G) [0, 1, 2, 3, 4, 5, 6, 7, 8, 9, 10, 11, 12, 13, 14, 15, 16, 17] (by decide) rfl) [0, 1, 2, 3, 4, 5, 6, 7, 8, 9, 10, 11, 12, 13, 14, 15, 16, 17] [18] rfl rfl (by decide) (by decide) (fun v H locs hP hD hS => ?_)
  replace hP := hP.sub (ws' := wRo ad ca P S G ao co vo) [1, 2, 3, 4, 5, 6, 7, 8, 9, 10, 11, 12, 13, 14, 15, 16, 17, 18, 0] rfl
  replace hD := hD.sub (ws' := wRo ad ca P S G ao co vo) [1, 2, 3, 4, 5, 6, 7, 8, 9, 10, 11, 12, 13, 14, 15, 16, 17, 18, 0] (by decide) rfl
  refine lv_astore (lv' := [(7, .ref v), (0, .ref (ad 0)), (1, .int z1), (2, .int z2), (3, .int z3), (4, .int z4), (5, .int z5), (6, .ref ao)]) hx hb d_L_wish_31 hl (by decide) rfl (fun ls hl => ?_)
  refine nr_iconst hx hb 4 d_L_wish_33 (by decide) ?_
  exact W.iret (v := (nI 4)) hx hb hr (fun t ht hW => ⟨⟨_, (), rfl, ⟨rfl, trivial⟩, by rw [ht]; exact hP, hD⟩, hS.F ht⟩) hS.2.2 d_L_wish_34
set_option maxHeartbeats 4000000 in
set_option maxRecDepth 100000 in
theorem o_L_freeze (l : Launch) (D : va_G) (ad : Nat → Nat) (ca : Nat → ClassId) (P S G : Nat → Nat → Nat) (z1 : Int32) {rmc : Room} {S1 : Type} {post : S1 → Prop} {P1 Sx G1 : S1 → Nat → Nat → Nat} (hrm : rmc.cells = 0 ∧ rmc.slots = 0 ∧ rmc.frames ≤ 10 ∧ rmc.locals ≤ 380) (hM : ∀ sz, Met l y_R_freeze w_R_freeze rmc (rw_P [.ref (ad 0), .int z1] D (wR ad ca P S G) (tR ca) sz) (rw_Qv post D (wR ad ca P S G) (fun u => wR ad ca (P1 u) (Sx u) (G1 u)) sz) 0 0 (va_A (wR ad ca P S G) sz)) (sz : Nat) : Met l y_L_freeze w_L_freeze { frames := 11, cells := 0, slots := 0, locals := 410 } (lw_PW [.ref (ad 0), .int z1] D (wR ad ca P S G) (tR ca) sz) (rw_Qi (fun (r : Int32) (u : S1) => r = nI 0 ∧ post u) D (wR ad ca P S G) (fun u => wR ad ca (P1 u) (Sx u) (G1 u)) sz) 0 0 (va_A (wR ad ca P S G) sz) := by
  refine va_MetW (cc := b_L_freeze) (maxL := 3) (ret := (some .int)) (by decide) rfl ?_
  intro p e s m args below meth c s₁ B hml hv
  obtain ⟨rfl, hsz, hN, hX, hCX, hP, hK, hD0⟩ := hv
  have hx := B.exec
  have hb := B.bytes
  have hr := B.returns
  have hts := atoms_spec (ws := w_L_freeze) B.pre
  have htb : ∀ w ∈ TBG, w.before [.ref (ad 0), .int z1].toArray s = true := fun w h => hts w (List.mem_cons_of_mem _ h)
  have hown : s.vm.findClass R_L = some m.cls := findClass_of_methodNamed B.named
  have hlocks := B.notSynchronized
  subst hsz
  have hD := hD0.self (sz := s.heap.size)
  have hPs := hP
  unfold rw_Qi
  generalize hAe : va_A (wR ad ca P S G) s.heap.size = A at hD ⊢
  have hA : ∀ q : Nat, s.heap.size ≤ q → A q := fun q h => by rw [← hAe]; exact Or.inr h
  have hS : va_S A s.heap s.heap [] := va_S.rf
  have hl := lv_entry ([.ref (ad 0), .int z1]) (n := 3) (Nat.le_of_ble_eq_true rfl)
  rw [lg_entry_eq]
  generalize (lg_sl ([.ref (ad 0), .int z1]) ++ List.replicate (3 - (lg_sl ([.ref (ad 0), .int z1])).length) Slot.unset).toArray = ls at hl ⊢
  have hl : lv_has ls 3 [(0, .ref (ad 0)), (1, .int z1)] := hl
  refine nr_start hP hS (fun H locs hP hS => ?_)
  refine lv_aload_n hx hb d_L_freeze_0 rfl (lv_at hl 0 rfl) ?_
  refine lv_iload_n hx hb d_L_freeze_1 rfl (lv_at hl 1 rfl) ?_
  refine nr_callv (wr := ([] : va_W)) (va_runV (As := [.int z1]) (rest := []) ⟨hx, hb, hml, hown, hts⟩ (hM H.size) ⟨callB_of 1 hts (gTB q_R_freeze) rfl hrm.1 hrm.2.1 (htb _ q1) (htb _ q449) hd_R_freeze ⟨by show rmc.frames + 1 ≤ 11; have := hrm.2.2.1; omega, by show 8 + (2 + 11) + rmc.locals ≤ 410; have := hrm.2.2.2; omega⟩, (htb _ q450), (htb _ q451)⟩ ⟨rw_blind, va_recv (hK.sub (tys' := []) [] rfl) hP (ci := 2) (q0 := 15) rfl rfl, rw_pre hN (hP.sub (ws' := wR ad ca P S G) [0, 1, 2, 3, 4, 5, 6, 7, 8, 9, 10, 11, 12, 13, 14, 15, 16, 17] rfl) (hK.sub (tys' := tR ca) [0, 1, 2, 3, 4, 5, 6, 7, 8, 9, 10, 11, 12, 13, 14] rfl) (hD.sub (ws' := wR ad ca P S G) [0, 1, 2, 3, 4, 5, 6, 7, 8, 9, 10, 11, 12, 13, 14, 15, 16, 17] (by decide) rfl)⟩ rfl rfl hl.1 rfl (lv_room (Nat.le_of_ble_eq_true rfl)) d_L_freeze_2 ⟨Nat.le_of_ble_eq_true rfl, Nat.le_of_ble_eq_true rfl⟩) hP hD hS hA [0, 1, 2, 3, 4, 5, 6, 7, 8, 9, 10, 11, 12, 13, 14, 15, 16, 17] [] rfl rfl (by decide) (by decide) (fun u H locs hu hP hD hS => ?_)
  refine lv_goto (tgt := 11) hx hb d_L_freeze_5 (by decide) ?_
  refine nr_iconst hx hb 0 d_L_freeze_11 (by decide) ?_
  exact W.iret (v := (nI 0)) hx hb hr (fun t ht hW => ⟨⟨_, u, rfl, ⟨rfl, hu⟩, by rw [ht]; exact hP, hD⟩, hS.F ht⟩) hS.2.2 d_L_freeze_12
set_option maxHeartbeats 4000000 in
set_option maxRecDepth 100000 in
theorem e_L_freeze_1 (l : Launch) (D : va_G) (ad : Nat → Nat) (ca : Nat → ClassId) (P S G : Nat → Nat → Nat) (z1 : Int32) {rmc : Room} (hrm : rmc.cells = 1 ∧ rmc.slots = 6 ∧ rmc.frames ≤ 10 ∧ rmc.locals ≤ 380) (hM : ∀ sz, MetT l y_R_freeze w_R_freeze rmc (tw_P [.ref (ad 0), .int z1] D (wR ad ca P S G) (tR ca) sz) (tqw "java/lang/IndexOutOfBoundsException" D (wR ad ca P S G)) 1 6 (va_A (wR ad ca P S G) sz)) (sz : Nat) : Met l y_L_freeze w_L_freeze { frames := 11, cells := 1, slots := 6, locals := 410 } (lw_PW [.ref (ad 0), .int z1] D (wR ad ca P S G) (tR ca) sz) (rw_Qi (fun (r : Int32) (u : Unit) => r = nI 1 ∧ True) D (wR ad ca P S G) (fun _ => wR ad ca P S G) sz) 1 6 (va_A (wR ad ca P S G) sz) := by
  refine va_MetW (cc := b_L_freeze) (maxL := 3) (ret := (some .int)) (by decide) rfl ?_
  intro p e s m args below meth c s₁ B hml hv
  obtain ⟨rfl, hsz, hN, hX, hCX, hP, hK, hD0⟩ := hv
  have hx := B.exec
  have hb := B.bytes
  have hr := B.returns
  have hts := atoms_spec (ws := w_L_freeze) B.pre
  have htb : ∀ w ∈ TBG, w.before [.ref (ad 0), .int z1].toArray s = true := fun w h => hts w (List.mem_cons_of_mem _ h)
  have hown : s.vm.findClass R_L = some m.cls := findClass_of_methodNamed B.named
  have hlocks := B.notSynchronized
  subst hsz
  have hD := hD0.self (sz := s.heap.size)
  have hPs := hP
  unfold rw_Qi
  generalize hAe : va_A (wR ad ca P S G) s.heap.size = A at hD ⊢
  have hA : ∀ q : Nat, s.heap.size ≤ q → A q := fun q h => by rw [← hAe]; exact Or.inr h
  have hS : va_S A s.heap s.heap [] := va_S.rf
  have hl := lv_entry ([.ref (ad 0), .int z1]) (n := 3) (Nat.le_of_ble_eq_true rfl)
  rw [lg_entry_eq]
  generalize (lg_sl ([.ref (ad 0), .int z1]) ++ List.replicate (3 - (lg_sl ([.ref (ad 0), .int z1])).length) Slot.unset).toArray = ls at hl ⊢
  have hl : lv_has ls 3 [(0, .ref (ad 0)), (1, .int z1)] := hl
  refine nr_start hP hS (fun H locs hP hS => ?_)
  refine lv_aload_n hx hb d_L_freeze_0 rfl (lv_at hl 0 rfl) ?_
  refine lv_iload_n hx hb d_L_freeze_1 rfl (lv_at hl 1 rfl) ?_
  refine nr_caught (wr := ([] : va_W)) (y := y_L_freeze) (nr_runVT (As := [.int z1]) (rest := []) ⟨hx, hb, hml, hown, hts⟩ (hM H.size).more ⟨callB_of 1 hts (gTB q_R_freeze) rfl hrm.1 hrm.2.1 (htb _ q1) (htb _ q449) hd_R_freeze ⟨by show rmc.frames + 1 ≤ 11; have := hrm.2.2.1; omega, by show 8 + (2 + 11) + rmc.locals ≤ 410; have := hrm.2.2.2; omega⟩, (htb _ q450), (htb _ q451)⟩ ⟨tw_blind, va_recv (hK.sub (tys' := []) [] rfl) hP (ci := 2) (q0 := 15) rfl rfl, fun U hU hW => ⟨rfl, by rw [hU], hN.warm hW, tx_keep hX hPs (by rw [hAe]; exact hS) U hU hW, by rw [hU]; exact (hP.sub (ws' := wR ad ca P S G) [0, 1, 2, 3, 4, 5, 6, 7, 8, 9, 10, 11, 12, 13, 14, 15, 16, 17] rfl), va_K.moved hW.alike (hK.sub (tys' := tR ca) [0, 1, 2, 3, 4, 5, 6, 7, 8, 9, 10, 11, 12, 13, 14] rfl), (hD.sub (ws' := wR ad ca P S G) [0, 1, 2, 3, 4, 5, 6, 7, 8, 9, 10, 11, 12, 13, 14, 15, 16, 17] (by decide) rfl).weaken (fun _ _ _ _ => trivial)⟩⟩ rfl rfl hl.1 rfl (lv_room (Nat.le_of_ble_eq_true rfl)) d_L_freeze_2 ⟨Nat.le_of_ble_eq_true rfl, Nat.le_of_ble_eq_true rfl⟩) (hts _ List.mem_cons_self) B.named hown hCX (by decide) 0 rfl (by decide) (by decide) (by decide) (htb _ q239) (hX.words _ _ x5) (fun _ h => absurd h List.not_mem_nil) hP hD hS hA (hD.sub (ws' := wR ad ca P S G) [0, 1, 2, 3, 4, 5, 6, 7, 8, 9, 10, 11, 12, 13, 14, 15, 16, 17] (by decide) rfl) [0, 1, 2, 3, 4, 5, 6, 7, 8, 9, 10, 11, 12, 13, 14, 15, 16, 17] [] rfl rfl (by decide) (by decide) (fun v H locs hP hD hS => ?_)
  refine lv_astore_n (lv' := [(2, .ref v), (0, .ref (ad 0)), (1, .int z1)]) hx hb d_L_freeze_8 rfl hl (by decide) rfl (fun ls hl => ?_)
  refine nr_iconst hx hb 1 d_L_freeze_9 (by decide) ?_
  exact W.iret (v := (nI 1)) hx hb hr (fun t ht hW => ⟨⟨_, (), rfl, ⟨rfl, trivial⟩, by rw [ht]; exact hP, hD⟩, hS.F ht⟩) hS.2.2 d_L_freeze_10
set_option maxHeartbeats 4000000 in
set_option maxRecDepth 100000 in
theorem o_L_set (l : Launch) (D : va_G) (ad : Nat → Nat) (ca : Nat → ClassId) (P S G : Nat → Nat → Nat) (z1 z2 z3 : Int32) {rmc : Room} {S1 : Type} {post : S1 → Prop} {P1 Sx G1 : S1 → Nat → Nat → Nat} (hrm : rmc.cells = 0 ∧ rmc.slots = 0 ∧ rmc.frames ≤ 10 ∧ rmc.locals ≤ 380) (hM : ∀ sz, Met l y_R_set w_R_set rmc (rw_P [.ref (ad 0), .int z1, .int z2, .int z3] D (wR ad ca P S G) (tR ca) sz) (rw_Qv post D (wR ad ca P S G) (fun u => wR ad ca (P1 u) (Sx u) (G1 u)) sz) 0 0 (va_A (wR ad ca P S G) sz)) (sz : Nat) : Met l y_L_set w_L_set { frames := 11, cells := 0, slots := 0, locals := 410 } (lw_PW [.ref (ad 0), .int z1, .int z2, .int z3] D (wR ad ca P S G) (tR ca) sz) (rw_Qi (fun (r : Int32) (u : S1) => r = nI 0 ∧ post u) D (wR ad ca P S G) (fun u => wR ad ca (P1 u) (Sx u) (G1 u)) sz) 0 0 (va_A (wR ad ca P S G) sz) := by
  refine va_MetW (cc := b_L_set) (maxL := 5) (ret := (some .int)) (by decide) rfl ?_
  intro p e s m args below meth c s₁ B hml hv
  obtain ⟨rfl, hsz, hN, hX, hCX, hP, hK, hD0⟩ := hv
  have hx := B.exec
  have hb := B.bytes
  have hr := B.returns
  have hts := atoms_spec (ws := w_L_set) B.pre
  have htb : ∀ w ∈ TBG, w.before [.ref (ad 0), .int z1, .int z2, .int z3].toArray s = true := fun w h => hts w (List.mem_cons_of_mem _ h)
  have hown : s.vm.findClass R_L = some m.cls := findClass_of_methodNamed B.named
  have hlocks := B.notSynchronized
  subst hsz
  have hD := hD0.self (sz := s.heap.size)
  have hPs := hP
  unfold rw_Qi
  generalize hAe : va_A (wR ad ca P S G) s.heap.size = A at hD ⊢
  have hA : ∀ q : Nat, s.heap.size ≤ q → A q := fun q h => by rw [← hAe]; exact Or.inr h
  have hS : va_S A s.heap s.heap [] := va_S.rf
  have hl := lv_entry ([.ref (ad 0), .int z1, .int z2, .int z3]) (n := 5) (Nat.le_of_ble_eq_true rfl)
  rw [lg_entry_eq]
  generalize (lg_sl ([.ref (ad 0), .int z1, .int z2, .int z3]) ++ List.replicate (5 - (lg_sl ([.ref (ad 0), .int z1, .int z2, .int z3])).length) Slot.unset).toArray = ls at hl ⊢
  have hl : lv_has ls 5 [(0, .ref (ad 0)), (1, .int z1), (2, .int z2), (3, .int z3)] := hl
  refine nr_start hP hS (fun H locs hP hS => ?_)
  refine lv_aload_n hx hb d_L_set_0 rfl (lv_at hl 0 rfl) ?_
  refine lv_iload_n hx hb d_L_set_1 rfl (lv_at hl 1 rfl) ?_
  refine lv_iload_n hx hb d_L_set_2 rfl (lv_at hl 2 rfl) ?_
  refine lv_iload_n hx hb d_L_set_3 rfl (lv_at hl 3 rfl) ?_
  refine nr_callv (wr := ([] : va_W)) (va_runV (As := [.int z1, .int z2, .int z3]) (rest := []) ⟨hx, hb, hml, hown, hts⟩ (hM H.size) ⟨callB_of 3 hts (gTB q_R_set) rfl hrm.1 hrm.2.1 (htb _ q1) (htb _ q456) hd_R_set ⟨by show rmc.frames + 1 ≤ 11; have := hrm.2.2.1; omega, by show 8 + (4 + 11) + rmc.locals ≤ 410; have := hrm.2.2.2; omega⟩, (htb _ q457), (htb _ q458)⟩ ⟨rw_blind, va_recv (hK.sub (tys' := []) [] rfl) hP (ci := 2) (q0 := 15) rfl rfl, rw_pre hN (hP.sub (ws' := wR ad ca P S G) [0, 1, 2, 3, 4, 5, 6, 7, 8, 9, 10, 11, 12, 13, 14, 15, 16, 17] rfl) (hK.sub (tys' := tR ca) [0, 1, 2, 3, 4, 5, 6, 7, 8, 9, 10, 11, 12, 13, 14] rfl) (hD.sub (ws' := wR ad ca P S G) [0, 1, 2, 3, 4, 5, 6, 7, 8, 9, 10, 11, 12, 13, 14, 15, 16, 17] (by decide) rfl)⟩ rfl rfl hl.1 rfl (lv_room (Nat.le_of_ble_eq_true rfl)) d_L_set_4 ⟨Nat.le_of_ble_eq_true rfl, Nat.le_of_ble_eq_true rfl⟩) hP hD hS hA [0, 1, 2, 3, 4, 5, 6, 7, 8, 9, 10, 11, 12, 13, 14, 15, 16, 17] [] rfl rfl (by decide) (by decide) (fun u H locs hu hP hD hS => ?_)
  refine lv_goto (tgt := 18) hx hb d_L_set_7 (by decide) ?_
  refine nr_iconst hx hb 0 d_L_set_18 (by decide) ?_
  exact W.iret (v := (nI 0)) hx hb hr (fun t ht hW => ⟨⟨_, u, rfl, ⟨rfl, hu⟩, by rw [ht]; exact hP, hD⟩, hS.F ht⟩) hS.2.2 d_L_set_19
set_option maxHeartbeats 4000000 in
set_option maxRecDepth 100000 in
theorem e_L_set_1 (l : Launch) (D : va_G) (ad : Nat → Nat) (ca : Nat → ClassId) (P S G : Nat → Nat → Nat) (z1 z2 z3 : Int32) {rmc : Room} (hrm : rmc.cells = 1 ∧ rmc.slots = 6 ∧ rmc.frames ≤ 10 ∧ rmc.locals ≤ 380) (hM : ∀ sz, MetT l y_R_set w_R_set rmc (tw_P [.ref (ad 0), .int z1, .int z2, .int z3] D (wR ad ca P S G) (tR ca) sz) (tqw "java/lang/IllegalArgumentException" D (wR ad ca P S G)) 1 6 (va_A (wR ad ca P S G) sz)) (sz : Nat) : Met l y_L_set w_L_set { frames := 11, cells := 1, slots := 6, locals := 410 } (lw_PW [.ref (ad 0), .int z1, .int z2, .int z3] D (wR ad ca P S G) (tR ca) sz) (rw_Qi (fun (r : Int32) (u : Unit) => r = nI 1 ∧ True) D (wR ad ca P S G) (fun _ => wR ad ca P S G) sz) 1 6 (va_A (wR ad ca P S G) sz) := by
  refine va_MetW (cc := b_L_set) (maxL := 5) (ret := (some .int)) (by decide) rfl ?_
  intro p e s m args below meth c s₁ B hml hv
  obtain ⟨rfl, hsz, hN, hX, hCX, hP, hK, hD0⟩ := hv
  have hx := B.exec
  have hb := B.bytes
  have hr := B.returns
  have hts := atoms_spec (ws := w_L_set) B.pre
  have htb : ∀ w ∈ TBG, w.before [.ref (ad 0), .int z1, .int z2, .int z3].toArray s = true := fun w h => hts w (List.mem_cons_of_mem _ h)
  have hown : s.vm.findClass R_L = some m.cls := findClass_of_methodNamed B.named
  have hlocks := B.notSynchronized
  subst hsz
  have hD := hD0.self (sz := s.heap.size)
  have hPs := hP
  unfold rw_Qi
  generalize hAe : va_A (wR ad ca P S G) s.heap.size = A at hD ⊢
  have hA : ∀ q : Nat, s.heap.size ≤ q → A q := fun q h => by rw [← hAe]; exact Or.inr h
  have hS : va_S A s.heap s.heap [] := va_S.rf
  have hl := lv_entry ([.ref (ad 0), .int z1, .int z2, .int z3]) (n := 5) (Nat.le_of_ble_eq_true rfl)
  rw [lg_entry_eq]
  generalize (lg_sl ([.ref (ad 0), .int z1, .int z2, .int z3]) ++ List.replicate (5 - (lg_sl ([.ref (ad 0), .int z1, .int z2, .int z3])).length) Slot.unset).toArray = ls at hl ⊢
  have hl : lv_has ls 5 [(0, .ref (ad 0)), (1, .int z1), (2, .int z2), (3, .int z3)] := hl
  refine nr_start hP hS (fun H locs hP hS => ?_)
  refine lv_aload_n hx hb d_L_set_0 rfl (lv_at hl 0 rfl) ?_
  refine lv_iload_n hx hb d_L_set_1 rfl (lv_at hl 1 rfl) ?_
  refine lv_iload_n hx hb d_L_set_2 rfl (lv_at hl 2 rfl) ?_
  refine lv_iload_n hx hb d_L_set_3 rfl (lv_at hl 3 rfl) ?_
  refine nr_caught (wr := ([] : va_W)) (y := y_L_set) (nr_runVT (As := [.int z1, .int z2, .int z3]) (rest := []) ⟨hx, hb, hml, hown, hts⟩ (hM H.size).more ⟨callB_of 3 hts (gTB q_R_set) rfl hrm.1 hrm.2.1 (htb _ q1) (htb _ q456) hd_R_set ⟨by show rmc.frames + 1 ≤ 11; have := hrm.2.2.1; omega, by show 8 + (4 + 11) + rmc.locals ≤ 410; have := hrm.2.2.2; omega⟩, (htb _ q457), (htb _ q458)⟩ ⟨tw_blind, va_recv (hK.sub (tys' := []) [] rfl) hP (ci := 2) (q0 := 15) rfl rfl, fun U hU hW => ⟨rfl, by rw [hU], hN.warm hW, tx_keep hX hPs (by rw [hAe]; exact hS) U hU hW, by rw [hU]; exact (hP.sub (ws' := wR ad ca P S G) [0, 1, 2, 3, 4, 5, 6, 7, 8, 9, 10, 11, 12, 13, 14, 15, 16, 17] rfl), va_K.moved hW.alike (hK.sub (tys' := tR ca) [0, 1, 2, 3, 4, 5, 6, 7, 8, 9, 10, 11, 12, 13, 14] rfl), (hD.sub (ws' := wR ad ca P S G) [0, 1, 2, 3, 4, 5, 6, 7, 8, 9, 10, 11, 12, 13, 14, 15, 16, 17] (by decide) rfl).weaken (fun _ _ _ _ => trivial)⟩⟩ rfl rfl hl.1 rfl (lv_room (Nat.le_of_ble_eq_true rfl)) d_L_set_4 ⟨Nat.le_of_ble_eq_true rfl, Nat.le_of_ble_eq_true rfl⟩) (hts _ List.mem_cons_self) B.named hown hCX (by decide) 0 rfl (by decide) (by decide) (by decide) (htb _ q359) (hX.words _ _ x9) (fun _ h => absurd h List.not_mem_nil) hP hD hS hA (hD.sub (ws' := wR ad ca P S G) [0, 1, 2, 3, 4, 5, 6, 7, 8, 9, 10, 11, 12, 13, 14, 15, 16, 17] (by decide) rfl) [0, 1, 2, 3, 4, 5, 6, 7, 8, 9, 10, 11, 12, 13, 14, 15, 16, 17] [] rfl rfl (by decide) (by decide) (fun v H locs hP hD hS => ?_)
  refine lv_astore (lv' := [(4, .ref v), (0, .ref (ad 0)), (1, .int z1), (2, .int z2), (3, .int z3)]) hx hb d_L_set_10 hl (by decide) rfl (fun ls hl => ?_)
  refine nr_iconst hx hb 1 d_L_set_12 (by decide) ?_
  exact W.iret (v := (nI 1)) hx hb hr (fun t ht hW => ⟨⟨_, (), rfl, ⟨rfl, trivial⟩, by rw [ht]; exact hP, hD⟩, hS.F ht⟩) hS.2.2 d_L_set_13
set_option maxHeartbeats 4000000 in
set_option maxRecDepth 100000 in
theorem e_L_set_2 (l : Launch) (D : va_G) (ad : Nat → Nat) (ca : Nat → ClassId) (P S G : Nat → Nat → Nat) (z1 z2 z3 : Int32) {rmc : Room} (hrm : rmc.cells = 1 ∧ rmc.slots = 6 ∧ rmc.frames ≤ 10 ∧ rmc.locals ≤ 380) (hM : ∀ sz, MetT l y_R_set w_R_set rmc (tw_P [.ref (ad 0), .int z1, .int z2, .int z3] D (wR ad ca P S G) (tR ca) sz) (tqw "java/lang/IllegalStateException" D (wR ad ca P S G)) 1 6 (va_A (wR ad ca P S G) sz)) (sz : Nat) : Met l y_L_set w_L_set { frames := 11, cells := 1, slots := 6, locals := 410 } (lw_PW [.ref (ad 0), .int z1, .int z2, .int z3] D (wR ad ca P S G) (tR ca) sz) (rw_Qi (fun (r : Int32) (u : Unit) => r = nI 2 ∧ True) D (wR ad ca P S G) (fun _ => wR ad ca P S G) sz) 1 6 (va_A (wR ad ca P S G) sz) := by
  refine va_MetW (cc := b_L_set) (maxL := 5) (ret := (some .int)) (by decide) rfl ?_
  intro p e s m args below meth c s₁ B hml hv
  obtain ⟨rfl, hsz, hN, hX, hCX, hP, hK, hD0⟩ := hv
  have hx := B.exec
  have hb := B.bytes
  have hr := B.returns
  have hts := atoms_spec (ws := w_L_set) B.pre
  have htb : ∀ w ∈ TBG, w.before [.ref (ad 0), .int z1, .int z2, .int z3].toArray s = true := fun w h => hts w (List.mem_cons_of_mem _ h)
  have hown : s.vm.findClass R_L = some m.cls := findClass_of_methodNamed B.named
  have hlocks := B.notSynchronized
  subst hsz
  have hD := hD0.self (sz := s.heap.size)
  have hPs := hP
  unfold rw_Qi
  generalize hAe : va_A (wR ad ca P S G) s.heap.size = A at hD ⊢
  have hA : ∀ q : Nat, s.heap.size ≤ q → A q := fun q h => by rw [← hAe]; exact Or.inr h
  have hS : va_S A s.heap s.heap [] := va_S.rf
  have hl := lv_entry ([.ref (ad 0), .int z1, .int z2, .int z3]) (n := 5) (Nat.le_of_ble_eq_true rfl)
  rw [lg_entry_eq]
  generalize (lg_sl ([.ref (ad 0), .int z1, .int z2, .int z3]) ++ List.replicate (5 - (lg_sl ([.ref (ad 0), .int z1, .int z2, .int z3])).length) Slot.unset).toArray = ls at hl ⊢
  have hl : lv_has ls 5 [(0, .ref (ad 0)), (1, .int z1), (2, .int z2), (3, .int z3)] := hl
  refine nr_start hP hS (fun H locs hP hS => ?_)
  refine lv_aload_n hx hb d_L_set_0 rfl (lv_at hl 0 rfl) ?_
  refine lv_iload_n hx hb d_L_set_1 rfl (lv_at hl 1 rfl) ?_
  refine lv_iload_n hx hb d_L_set_2 rfl (lv_at hl 2 rfl) ?_
  refine lv_iload_n hx hb d_L_set_3 rfl (lv_at hl 3 rfl) ?_
  refine nr_caught (wr := ([] : va_W)) (y := y_L_set) (nr_runVT (As := [.int z1, .int z2, .int z3]) (rest := []) ⟨hx, hb, hml, hown, hts⟩ (hM H.size).more ⟨callB_of 3 hts (gTB q_R_set) rfl hrm.1 hrm.2.1 (htb _ q1) (htb _ q456) hd_R_set ⟨by show rmc.frames + 1 ≤ 11; have := hrm.2.2.1; omega, by show 8 + (4 + 11) + rmc.locals ≤ 410; have := hrm.2.2.2; omega⟩, (htb _ q457), (htb _ q458)⟩ ⟨tw_blind, va_recv (hK.sub (tys' := []) [] rfl) hP (ci := 2) (q0 := 15) rfl rfl, fun U hU hW => ⟨rfl, by rw [hU], hN.warm hW, tx_keep hX hPs (by rw [hAe]; exact hS) U hU hW, by rw [hU]; exact (hP.sub (ws' := wR ad ca P S G) [0, 1, 2, 3, 4, 5, 6, 7, 8, 9, 10, 11, 12, 13, 14, 15, 16, 17] rfl), va_K.moved hW.alike (hK.sub (tys' := tR ca) [0, 1, 2, 3, 4, 5, 6, 7, 8, 9, 10, 11, 12, 13, 14] rfl), (hD.sub (ws' := wR ad ca P S G) [0, 1, 2, 3, 4, 5, 6, 7, 8, 9, 10, 11, 12, 13, 14, 15, 16, 17] (by decide) rfl).weaken (fun _ _ _ _ => trivial)⟩⟩ rfl rfl hl.1 rfl (lv_room (Nat.le_of_ble_eq_true rfl)) d_L_set_4 ⟨Nat.le_of_ble_eq_true rfl, Nat.le_of_ble_eq_true rfl⟩) (hts _ List.mem_cons_self) B.named hown hCX (by decide) 1 rfl (by decide) (by decide) (by decide) (htb _ q417) (hX.words _ _ x10) (List.forall_mem_cons.mpr ⟨⟨by decide, "java/lang/IllegalArgumentException", by decide, by decide, (htb _ q359)⟩, (fun _ h => absurd h List.not_mem_nil)⟩) hP hD hS hA (hD.sub (ws' := wR ad ca P S G) [0, 1, 2, 3, 4, 5, 6, 7, 8, 9, 10, 11, 12, 13, 14, 15, 16, 17] (by decide) rfl) [0, 1, 2, 3, 4, 5, 6, 7, 8, 9, 10, 11, 12, 13, 14, 15, 16, 17] [] rfl rfl (by decide) (by decide) (fun v H locs hP hD hS => ?_)
  refine lv_astore (lv' := [(4, .ref v), (0, .ref (ad 0)), (1, .int z1), (2, .int z2), (3, .int z3)]) hx hb d_L_set_14 hl (by decide) rfl (fun ls hl => ?_)
  refine nr_iconst hx hb 2 d_L_set_16 (by decide) ?_
  exact W.iret (v := (nI 2)) hx hb hr (fun t ht hW => ⟨⟨_, (), rfl, ⟨rfl, trivial⟩, by rw [ht]; exact hP, hD⟩, hS.F ht⟩) hS.2.2 d_L_set_17
set_option maxHeartbeats 4000000 in
set_option maxRecDepth 100000 in
theorem o_L_solve (l : Launch) (D : va_G) (ad : Nat → Nat) (ca : Nat → ClassId) (P S G : Nat → Nat → Nat) (ao : Nat) (co : ClassId) (vo : Nat → Int64) (z1 : Int32) {rmc : Room} {S1 : Type} {post : Int32 → S1 → Prop} {P1 Sx G1 : S1 → Nat → Nat → Nat} (hrm : rmc.cells = 0 ∧ rmc.slots = 0 ∧ rmc.frames ≤ 10 ∧ rmc.locals ≤ 380) (hM : ∀ sz, Met l y_R_solve w_R_solve rmc (rw_P [.ref (ad 0), .int z1] D (wR ad ca P S G) (tR ca) sz) (rw_Qi post D (wR ad ca P S G) (fun u => wR ad ca (P1 u) (Sx u) (G1 u)) sz) 0 0 (va_A (wR ad ca P S G) sz)) (sz : Nat) : Met l y_L_solve w_L_solve { frames := 11, cells := 0, slots := 0, locals := 410 } (lw_PW [.ref (ad 0), .int z1, .ref ao] D (wRo ad ca P S G ao co vo) (tRo ca co) sz) (rw_Qi (fun (r : Int32) (u : Int32 × S1) => r = nI 0 ∧ post u.1 u.2) D (wRo ad ca P S G ao co vo) (fun u => wRo ad ca (P1 u.2) (Sx u.2) (G1 u.2) ao co (vp_updL vo 0 u.1.toInt64)) sz) 0 0 (va_A (wRo ad ca P S G ao co vo) sz) := by
  refine va_MetW (cc := b_L_solve) (maxL := 4) (ret := (some .int)) (by decide) rfl ?_
  intro p e s m args below meth c s₁ B hml hv
  obtain ⟨rfl, hsz, hN, hX, hCX, hP, hK, hD0⟩ := hv
  have hx := B.exec
  have hb := B.bytes
  have hr := B.returns
  have hts := atoms_spec (ws := w_L_solve) B.pre
  have htb : ∀ w ∈ TBG, w.before [.ref (ad 0), .int z1, .ref ao].toArray s = true := fun w h => hts w (List.mem_cons_of_mem _ h)
  have hown : s.vm.findClass R_L = some m.cls := findClass_of_methodNamed B.named
  have hlocks := B.notSynchronized
  subst hsz
  have hD := hD0.self (sz := s.heap.size)
  have hPs := hP
  unfold rw_Qi
  generalize hAe : va_A (wRo ad ca P S G ao co vo) s.heap.size = A at hD ⊢
  have hA : ∀ q : Nat, s.heap.size ≤ q → A q := fun q h => by rw [← hAe]; exact Or.inr h
  have hS : va_S A s.heap s.heap [] := va_S.rf
  have hl := lv_entry ([.ref (ad 0), .int z1, .ref ao]) (n := 4) (Nat.le_of_ble_eq_true rfl)
  rw [lg_entry_eq]
  generalize (lg_sl ([.ref (ad 0), .int z1, .ref ao]) ++ List.replicate (4 - (lg_sl ([.ref (ad 0), .int z1, .ref ao])).length) Slot.unset).toArray = ls at hl ⊢
  have hl : lv_has ls 4 [(0, .ref (ad 0)), (1, .int z1), (2, .ref ao)] := hl
  refine nr_start hP hS (fun H locs hP hS => ?_)
  refine lv_aload_n hx hb d_L_solve_0 rfl (lv_at hl 2 rfl) ?_
  refine nr_iconst hx hb 0 d_L_solve_1 (by decide) ?_
  refine lv_aload_n hx hb d_L_solve_2 rfl (lv_at hl 0 rfl) ?_
  refine lv_iload_n hx hb d_L_solve_3 rfl (lv_at hl 1 rfl) ?_
  refine nr_callwi (wr := [(ao, .inl (co, 1, .inr (.inl vo)))]) (va_runV (As := [.int z1]) (rest := [.int (nI 0), .ref ao]) ⟨hx, hb, hml, hown, hts⟩ (hM H.size) ⟨callB_of 1 hts (gTB q_R_solve) rfl hrm.1 hrm.2.1 (htb _ q1) (htb _ q463) hd_R_solve ⟨by show rmc.frames + 1 ≤ 11; have := hrm.2.2.1; omega, by show 8 + (2 + 11) + rmc.locals ≤ 410; have := hrm.2.2.2; omega⟩, (htb _ q464), (htb _ q465)⟩ ⟨rw_blind, va_recv (hK.sub (tys' := []) [] rfl) hP (ci := 2) (q0 := 15) rfl rfl, rw_pre hN (hP.sub (ws' := wR ad ca P S G) [0, 1, 2, 3, 4, 5, 6, 7, 8, 9, 10, 11, 12, 13, 14, 15, 16, 17] rfl) (hK.sub (tys' := tR ca) [0, 1, 2, 3, 4, 5, 6, 7, 8, 9, 10, 11, 12, 13, 14] rfl) (hD.sub (ws' := wR ad ca P S G) [0, 1, 2, 3, 4, 5, 6, 7, 8, 9, 10, 11, 12, 13, 14, 15, 16, 17] (by decide) rfl)⟩ rfl rfl hl.1 rfl (lv_room (Nat.le_of_ble_eq_true rfl)) d_L_solve_4 ⟨Nat.le_of_ble_eq_true rfl, Nat.le_of_ble_eq_true rfl⟩) hP hD hS hA [0, 1, 2, 3, 4, 5, 6, 7, 8, 9, 10, 11, 12, 13, 14, 15, 16, 17] [18] rfl rfl (by decide) (by decide) (fun r u H locs hu hP hD hS => ?_)
  replace hP := hP.sub (ws' := wRo ad ca (P1 u) (Sx u) (G1 u) ao co vo) [1, 2, 3, 4, 5, 6, 7, 8, 9, 10, 11, 12, 13, 14, 15, 16, 17, 18, 0] rfl
  replace hD := hD.sub (ws' := wRo ad ca (P1 u) (Sx u) (G1 u) ao co vo) [1, 2, 3, 4, 5, 6, 7, 8, 9, 10, 11, 12, 13, 14, 15, 16, 17, 18, 0] (by decide) rfl
  refine lv_i2l (v := r.toInt64) hx hb d_L_solve_7 rfl ?_
  refine va_last hx hb hK hP hD hS 18 15 rfl rfl (nI_in (by decide) (by decide)) d_L_solve_8 (fun H locs hP hD hS => ?_)
  replace hP : va_P D cls (wRo ad ca (P1 u) (Sx u) (G1 u) ao co (vp_updL vo 0 r.toInt64)) H := hP
  replace hD : va_D A (wRo ad ca (P1 u) (Sx u) (G1 u) ao co (vp_updL vo 0 r.toInt64)) := hD
  refine lv_goto (tgt := 15) hx hb d_L_solve_9 (by decide) ?_
  refine nr_iconst hx hb 0 d_L_solve_15 (by decide) ?_
  exact W.iret (v := (nI 0)) hx hb hr (fun t ht hW => ⟨⟨_, (r, u), rfl, ⟨rfl, hu⟩, by rw [ht]; exact hP, hD⟩, hS.F ht⟩) hS.2.2 d_L_solve_16
set_option maxHeartbeats 4000000 in
set_option maxRecDepth 100000 in
theorem e_L_solve_1 (l : Launch) (D : va_G) (ad : Nat → Nat) (ca : Nat → ClassId) (P S G : Nat → Nat → Nat) (ao : Nat) (co : ClassId) (vo : Nat → Int64) (z1 : Int32) {rmc : Room} (hrm : rmc.cells = 1 ∧ rmc.slots = 6 ∧ rmc.frames ≤ 10 ∧ rmc.locals ≤ 380) (hM : ∀ sz, MetT l y_R_solve w_R_solve rmc (tw_P [.ref (ad 0), .int z1] D (wR ad ca P S G) (tR ca) sz) (tqw "java/lang/IndexOutOfBoundsException" D (wR ad ca P S G)) 1 6 (va_A (wR ad ca P S G) sz)) (sz : Nat) : Met l y_L_solve w_L_solve { frames := 11, cells := 1, slots := 6, locals := 410 } (lw_PW [.ref (ad 0), .int z1, .ref ao] D (wRo ad ca P S G ao co vo) (tRo ca co) sz) (rw_Qi (fun (r : Int32) (u : Unit) => r = nI 1 ∧ True) D (wRo ad ca P S G ao co vo) (fun _ => wRo ad ca P S G ao co vo) sz) 1 6 (va_A (wRo ad ca P S G ao co vo) sz) := by
  refine va_MetW (cc := b_L_solve) (maxL := 4) (ret := (some .int)) (by decide) rfl ?_
  intro p e s m args below meth c s₁ B hml hv
  obtain ⟨rfl, hsz, hN, hX, hCX, hP, hK, hD0⟩ := hv
  have hx := B.exec
  have hb := B.bytes
  have hr := B.returns
  have hts := atoms_spec (ws := w_L_solve) B.pre
  have htb : ∀ w ∈ TBG, w.before [.ref (ad 0), .int z1, .ref ao].toArray s = true := fun w h => hts w (List.mem_cons_of_mem _ h)
  have hown : s.vm.findClass R_L = some m.cls := findClass_of_methodNamed B.named
  have hlocks := B.notSynchronized
  subst hsz
  have hD := hD0.self (sz := s.heap.size)
  have hPs := hP
  unfold rw_Qi
  generalize hAe : va_A (wRo ad ca P S G ao co vo) s.heap.size = A at hD ⊢
  have hA : ∀ q : Nat, s.heap.size ≤ q → A q := fun q h => by rw [← hAe]; exact Or.inr h
  have hS : va_S A s.heap s.heap [] := va_S.rf
  have hl := lv_entry ([.ref (ad 0), .int z1, .ref ao]) (n := 4) (Nat.le_of_ble_eq_true rfl)
  rw [lg_entry_eq]
  generalize (lg_sl ([.ref (ad 0), .int z1, .ref ao]) ++ List.replicate (4 - (lg_sl ([.ref (ad 0), .int z1, .ref ao])).length) Slot.unset).toArray = ls at hl ⊢
  have hl : lv_has ls 4 [(0, .ref (ad 0)), (1, .int z1), (2, .ref ao)] := hl
  refine nr_start hP hS (fun H locs hP hS => ?_)
  refine lv_aload_n hx hb d_L_solve_0 rfl (lv_at hl 2 rfl) ?_
  refine nr_iconst hx hb 0 d_L_solve_1 (by decide) ?_
  refine lv_aload_n hx hb d_L_solve_2 rfl (lv_at hl 0 rfl) ?_
  refine lv_iload_n hx hb d_L_solve_3 rfl (lv_at hl 1 rfl) ?_
  refine nr_caught (wr := [(ao, .inl (co, 1, .inr (.inl vo)))]) (y := y_L_solve) (nr_runVT (As := [.int z1]) (rest := [.int (nI 0), .ref ao]) ⟨hx, hb, hml, hown, hts⟩ (hM H.size).more ⟨callB_of 1 hts (gTB q_R_solve) rfl hrm.1 hrm.2.1 (htb _ q1) (htb _ q463) hd_R_solve ⟨by show rmc.frames + 1 ≤ 11; have := hrm.2.2.1; omega, by show 8 + (2 + 11) + rmc.locals ≤ 410; have := hrm.2.2.2; omega⟩, (htb _ q464), (htb _ q465)⟩ ⟨tw_blind, va_recv (hK.sub (tys' := []) [] rfl) hP (ci := 2) (q0 := 15) rfl rfl, fun U hU hW => ⟨rfl, by rw [hU], hN.warm hW, tx_keep hX hPs (by rw [hAe]; exact hS) U hU hW, by rw [hU]; exact (hP.sub (ws' := wR ad ca P S G) [0, 1, 2, 3, 4, 5, 6, 7, 8, 9, 10, 11, 12, 13, 14, 15, 16, 17] rfl), va_K.moved hW.alike (hK.sub (tys' := tR ca) [0, 1, 2, 3, 4, 5, 6, 7, 8, 9, 10, 11, 12, 13, 14] rfl), (hD.sub (ws' := wR ad ca P S G) [0, 1, 2, 3, 4, 5, 6, 7, 8, 9, 10, 11, 12, 13, 14, 15, 16, 17] (by decide) rfl).weaken (fun _ _ _ _ => trivial)⟩⟩ rfl rfl hl.1 rfl (lv_room (Nat.le_of_ble_eq_true rfl)) d_L_solve_4 ⟨Nat.le_of_ble_eq_true rfl, Nat.le_of_ble_eq_true rfl⟩) (hts _ List.mem_cons_self) B.named hown hCX (by decide) 0 rfl (by decide) (by decide) (by decide) (htb _ q239) (hX.words _ _ x5) (fun _ h => absurd h List.not_mem_nil) hP hD hS hA (hD.sub (ws' := wR ad ca P S G) [0, 1, 2, 3, 4, 5, 6, 7, 8, 9, 10, 11, 12, 13, 14, 15, 16, 17] (by decide) rfl) [0, 1, 2, 3, 4, 5, 6, 7, 8, 9, 10, 11, 12, 13, 14, 15, 16, 17] [18] rfl rfl (by decide) (by decide) (fun v H locs hP hD hS => ?_)
  replace hP := hP.sub (ws' := wRo ad ca P S G ao co vo) [1, 2, 3, 4, 5, 6, 7, 8, 9, 10, 11, 12, 13, 14, 15, 16, 17, 18, 0] rfl
  replace hD := hD.sub (ws' := wRo ad ca P S G ao co vo) [1, 2, 3, 4, 5, 6, 7, 8, 9, 10, 11, 12, 13, 14, 15, 16, 17, 18, 0] (by decide) rfl
  refine lv_astore_n (lv' := [(3, .ref v), (0, .ref (ad 0)), (1, .int z1), (2, .ref ao)]) hx hb d_L_solve_12 rfl hl (by decide) rfl (fun ls hl => ?_)
  refine nr_iconst hx hb 1 d_L_solve_13 (by decide) ?_
  exact W.iret (v := (nI 1)) hx hb hr (fun t ht hW => ⟨⟨_, (), rfl, ⟨rfl, trivial⟩, by rw [ht]; exact hP, hD⟩, hS.F ht⟩) hS.2.2 d_L_solve_14
set_option maxHeartbeats 4000000 in
set_option maxRecDepth 100000 in
theorem o_L_solved (l : Launch) (D : va_G) (ad : Nat → Nat) (ca : Nat → ClassId) (P S G : Nat → Nat → Nat) (ao : Nat) (co : ClassId) (vo : Nat → Int64) (z1 : Int32) {rmc : Room} {S1 : Type} {post : Int32 → S1 → Prop} {P1 Sx G1 : S1 → Nat → Nat → Nat} (hrm : rmc.cells = 0 ∧ rmc.slots = 0 ∧ rmc.frames ≤ 10 ∧ rmc.locals ≤ 380) (hM : ∀ sz, Met l y_R_solved w_R_solved rmc (rw_P [.ref (ad 0), .int z1] D (wR ad ca P S G) (tR ca) sz) (rw_Qi post D (wR ad ca P S G) (fun u => wR ad ca (P1 u) (Sx u) (G1 u)) sz) 0 0 (va_A (wR ad ca P S G) sz)) (sz : Nat) : Met l y_L_solved w_L_solved { frames := 11, cells := 0, slots := 0, locals := 410 } (lw_PW [.ref (ad 0), .int z1, .ref ao] D (wRo ad ca P S G ao co vo) (tRo ca co) sz) (rw_Qi (fun (r : Int32) (u : Int32 × S1) => r = nI 0 ∧ post u.1 u.2) D (wRo ad ca P S G ao co vo) (fun u => wRo ad ca (P1 u.2) (Sx u.2) (G1 u.2) ao co (vp_updL vo 0 u.1.toInt64)) sz) 0 0 (va_A (wRo ad ca P S G ao co vo) sz) := by
  refine va_MetW (cc := b_L_solved) (maxL := 4) (ret := (some .int)) (by decide) rfl ?_
  intro p e s m args below meth c s₁ B hml hv
  obtain ⟨rfl, hsz, hN, hX, hCX, hP, hK, hD0⟩ := hv
  have hx := B.exec
  have hb := B.bytes
  have hr := B.returns
  have hts := atoms_spec (ws := w_L_solved) B.pre
  have htb : ∀ w ∈ TBG, w.before [.ref (ad 0), .int z1, .ref ao].toArray s = true := fun w h => hts w (List.mem_cons_of_mem _ h)
  have hown : s.vm.findClass R_L = some m.cls := findClass_of_methodNamed B.named
  have hlocks := B.notSynchronized
  subst hsz
  have hD := hD0.self (sz := s.heap.size)
  have hPs := hP
  unfold rw_Qi
  generalize hAe : va_A (wRo ad ca P S G ao co vo) s.heap.size = A at hD ⊢
  have hA : ∀ q : Nat, s.heap.size ≤ q → A q := fun q h => by rw [← hAe]; exact Or.inr h
  have hS : va_S A s.heap s.heap [] := va_S.rf
  have hl := lv_entry ([.ref (ad 0), .int z1, .ref ao]) (n := 4) (Nat.le_of_ble_eq_true rfl)
  rw [lg_entry_eq]
  generalize (lg_sl ([.ref (ad 0), .int z1, .ref ao]) ++ List.replicate (4 - (lg_sl ([.ref (ad 0), .int z1, .ref ao])).length) Slot.unset).toArray = ls at hl ⊢
  have hl : lv_has ls 4 [(0, .ref (ad 0)), (1, .int z1), (2, .ref ao)] := hl
  refine nr_start hP hS (fun H locs hP hS => ?_)
  refine lv_aload_n hx hb d_L_solved_0 rfl (lv_at hl 2 rfl) ?_
  refine nr_iconst hx hb 0 d_L_solved_1 (by decide) ?_
  refine lv_aload_n hx hb d_L_solved_2 rfl (lv_at hl 0 rfl) ?_
  refine lv_iload_n hx hb d_L_solved_3 rfl (lv_at hl 1 rfl) ?_
  refine nr_callwi (wr := [(ao, .inl (co, 1, .inr (.inl vo)))]) (va_runV (As := [.int z1]) (rest := [.int (nI 0), .ref ao]) ⟨hx, hb, hml, hown, hts⟩ (hM H.size) ⟨callB_of 1 hts (gTB q_R_solved) rfl hrm.1 hrm.2.1 (htb _ q1) (htb _ q513) hd_R_solved ⟨by show rmc.frames + 1 ≤ 11; have := hrm.2.2.1; omega, by show 8 + (2 + 11) + rmc.locals ≤ 410; have := hrm.2.2.2; omega⟩, (htb _ q514), (htb _ q515)⟩ ⟨rw_blind, va_recv (hK.sub (tys' := []) [] rfl) hP (ci := 2) (q0 := 15) rfl rfl, rw_pre hN (hP.sub (ws' := wR ad ca P S G) [0, 1, 2, 3, 4, 5, 6, 7, 8, 9, 10, 11, 12, 13, 14, 15, 16, 17] rfl) (hK.sub (tys' := tR ca) [0, 1, 2, 3, 4, 5, 6, 7, 8, 9, 10, 11, 12, 13, 14] rfl) (hD.sub (ws' := wR ad ca P S G) [0, 1, 2, 3, 4, 5, 6, 7, 8, 9, 10, 11, 12, 13, 14, 15, 16, 17] (by decide) rfl)⟩ rfl rfl hl.1 rfl (lv_room (Nat.le_of_ble_eq_true rfl)) d_L_solved_4 ⟨Nat.le_of_ble_eq_true rfl, Nat.le_of_ble_eq_true rfl⟩) hP hD hS hA [0, 1, 2, 3, 4, 5, 6, 7, 8, 9, 10, 11, 12, 13, 14, 15, 16, 17] [18] rfl rfl (by decide) (by decide) (fun r u H locs hu hP hD hS => ?_)
  replace hP := hP.sub (ws' := wRo ad ca (P1 u) (Sx u) (G1 u) ao co vo) [1, 2, 3, 4, 5, 6, 7, 8, 9, 10, 11, 12, 13, 14, 15, 16, 17, 18, 0] rfl
  replace hD := hD.sub (ws' := wRo ad ca (P1 u) (Sx u) (G1 u) ao co vo) [1, 2, 3, 4, 5, 6, 7, 8, 9, 10, 11, 12, 13, 14, 15, 16, 17, 18, 0] (by decide) rfl
  refine lv_i2l (v := r.toInt64) hx hb d_L_solved_7 rfl ?_
  refine va_last hx hb hK hP hD hS 18 15 rfl rfl (nI_in (by decide) (by decide)) d_L_solved_8 (fun H locs hP hD hS => ?_)
  replace hP : va_P D cls (wRo ad ca (P1 u) (Sx u) (G1 u) ao co (vp_updL vo 0 r.toInt64)) H := hP
  replace hD : va_D A (wRo ad ca (P1 u) (Sx u) (G1 u) ao co (vp_updL vo 0 r.toInt64)) := hD
  refine lv_goto (tgt := 15) hx hb d_L_solved_9 (by decide) ?_
  refine nr_iconst hx hb 0 d_L_solved_15 (by decide) ?_
  exact W.iret (v := (nI 0)) hx hb hr (fun t ht hW => ⟨⟨_, (r, u), rfl, ⟨rfl, hu⟩, by rw [ht]; exact hP, hD⟩, hS.F ht⟩) hS.2.2 d_L_solved_16
set_option maxHeartbeats 4000000 in
set_option maxRecDepth 100000 in
theorem e_L_solved_1 (l : Launch) (D : va_G) (ad : Nat → Nat) (ca : Nat → ClassId) (P S G : Nat → Nat → Nat) (ao : Nat) (co : ClassId) (vo : Nat → Int64) (z1 : Int32) {rmc : Room} (hrm : rmc.cells = 1 ∧ rmc.slots = 6 ∧ rmc.frames ≤ 10 ∧ rmc.locals ≤ 380) (hM : ∀ sz, MetT l y_R_solved w_R_solved rmc (tw_P [.ref (ad 0), .int z1] D (wR ad ca P S G) (tR ca) sz) (tqw "java/lang/IllegalArgumentException" D (wR ad ca P S G)) 1 6 (va_A (wR ad ca P S G) sz)) (sz : Nat) : Met l y_L_solved w_L_solved { frames := 11, cells := 1, slots := 6, locals := 410 } (lw_PW [.ref (ad 0), .int z1, .ref ao] D (wRo ad ca P S G ao co vo) (tRo ca co) sz) (rw_Qi (fun (r : Int32) (u : Unit) => r = nI 1 ∧ True) D (wRo ad ca P S G ao co vo) (fun _ => wRo ad ca P S G ao co vo) sz) 1 6 (va_A (wRo ad ca P S G ao co vo) sz) := by
  refine va_MetW (cc := b_L_solved) (maxL := 4) (ret := (some .int)) (by decide) rfl ?_
  intro p e s m args below meth c s₁ B hml hv
  obtain ⟨rfl, hsz, hN, hX, hCX, hP, hK, hD0⟩ := hv
  have hx := B.exec
  have hb := B.bytes
  have hr := B.returns
  have hts := atoms_spec (ws := w_L_solved) B.pre
  have htb : ∀ w ∈ TBG, w.before [.ref (ad 0), .int z1, .ref ao].toArray s = true := fun w h => hts w (List.mem_cons_of_mem _ h)
  have hown : s.vm.findClass R_L = some m.cls := findClass_of_methodNamed B.named
  have hlocks := B.notSynchronized
  subst hsz
  have hD := hD0.self (sz := s.heap.size)
  have hPs := hP
  unfold rw_Qi
  generalize hAe : va_A (wRo ad ca P S G ao co vo) s.heap.size = A at hD ⊢
  have hA : ∀ q : Nat, s.heap.size ≤ q → A q := fun q h => by rw [← hAe]; exact Or.inr h
  have hS : va_S A s.heap s.heap [] := va_S.rf
  have hl := lv_entry ([.ref (ad 0), .int z1, .ref ao]) (n := 4) (Nat.le_of_ble_eq_true rfl)
  rw [lg_entry_eq]
  generalize (lg_sl ([.ref (ad 0), .int z1, .ref ao]) ++ List.replicate (4 - (lg_sl ([.ref (ad 0), .int z1, .ref ao])).length) Slot.unset).toArray = ls at hl ⊢
  have hl : lv_has ls 4 [(0, .ref (ad 0)), (1, .int z1), (2, .ref ao)] := hl
  refine nr_start hP hS (fun H locs hP hS => ?_)
  refine lv_aload_n hx hb d_L_solved_0 rfl (lv_at hl 2 rfl) ?_
  refine nr_iconst hx hb 0 d_L_solved_1 (by decide) ?_
  refine lv_aload_n hx hb d_L_solved_2 rfl (lv_at hl 0 rfl) ?_
  refine lv_iload_n hx hb d_L_solved_3 rfl (lv_at hl 1 rfl) ?_
  refine nr_caught (wr := [(ao, .inl (co, 1, .inr (.inl vo)))]) (y := y_L_solved) (nr_runVT (As := [.int z1]) (rest := [.int (nI 0), .ref ao]) ⟨hx, hb, hml, hown, hts⟩ (hM H.size).more ⟨callB_of 1 hts (gTB q_R_solved) rfl hrm.1 hrm.2.1 (htb _ q1) (htb _ q513) hd_R_solved ⟨by show rmc.frames + 1 ≤ 11; have := hrm.2.2.1; omega, by show 8 + (2 + 11) + rmc.locals ≤ 410; have := hrm.2.2.2; omega⟩, (htb _ q514), (htb _ q515)⟩ ⟨tw_blind, va_recv (hK.sub (tys' := []) [] rfl) hP (ci := 2) (q0 := 15) rfl rfl, fun U hU hW => ⟨rfl, by rw [hU], hN.warm hW, tx_keep hX hPs (by rw [hAe]; exact hS) U hU hW, by rw [hU]; exact (hP.sub (ws' := wR ad ca P S G) [0, 1, 2, 3, 4, 5, 6, 7, 8, 9, 10, 11, 12, 13, 14, 15, 16, 17] rfl), va_K.moved hW.alike (hK.sub (tys' := tR ca) [0, 1, 2, 3, 4, 5, 6, 7, 8, 9, 10, 11, 12, 13, 14] rfl), (hD.sub (ws' := wR ad ca P S G) [0, 1, 2, 3, 4, 5, 6, 7, 8, 9, 10, 11, 12, 13, 14, 15, 16, 17] (by decide) rfl).weaken (fun _ _ _ _ => trivial)⟩⟩ rfl rfl hl.1 rfl (lv_room (Nat.le_of_ble_eq_true rfl)) d_L_solved_4 ⟨Nat.le_of_ble_eq_true rfl, Nat.le_of_ble_eq_true rfl⟩) (hts _ List.mem_cons_self) B.named hown hCX (by decide) 0 rfl (by decide) (by decide) (by decide) (htb _ q359) (hX.words _ _ x9) (fun _ h => absurd h List.not_mem_nil) hP hD hS hA (hD.sub (ws' := wR ad ca P S G) [0, 1, 2, 3, 4, 5, 6, 7, 8, 9, 10, 11, 12, 13, 14, 15, 16, 17] (by decide) rfl) [0, 1, 2, 3, 4, 5, 6, 7, 8, 9, 10, 11, 12, 13, 14, 15, 16, 17] [18] rfl rfl (by decide) (by decide) (fun v H locs hP hD hS => ?_)
  replace hP := hP.sub (ws' := wRo ad ca P S G ao co vo) [1, 2, 3, 4, 5, 6, 7, 8, 9, 10, 11, 12, 13, 14, 15, 16, 17, 18, 0] rfl
  replace hD := hD.sub (ws' := wRo ad ca P S G ao co vo) [1, 2, 3, 4, 5, 6, 7, 8, 9, 10, 11, 12, 13, 14, 15, 16, 17, 18, 0] (by decide) rfl
  refine lv_astore_n (lv' := [(3, .ref v), (0, .ref (ad 0)), (1, .int z1), (2, .ref ao)]) hx hb d_L_solved_12 rfl hl (by decide) rfl (fun ls hl => ?_)
  refine nr_iconst hx hb 1 d_L_solved_13 (by decide) ?_
  exact W.iret (v := (nI 1)) hx hb hr (fun t ht hW => ⟨⟨_, (), rfl, ⟨rfl, trivial⟩, by rw [ht]; exact hP, hD⟩, hS.F ht⟩) hS.2.2 d_L_solved_14
set_option maxHeartbeats 4000000 in
set_option maxRecDepth 100000 in
theorem o_L_swap (l : Launch) (D : va_G) (ad : Nat → Nat) (ca : Nat → ClassId) (P S G : Nat → Nat → Nat) (z1 z2 z3 : Int32) {rmc : Room} {S1 : Type} {post : S1 → Prop} {P1 Sx G1 : S1 → Nat → Nat → Nat} (hrm : rmc.cells = 0 ∧ rmc.slots = 0 ∧ rmc.frames ≤ 10 ∧ rmc.locals ≤ 380) (hM : ∀ sz, Met l y_R_swap w_R_swap rmc (rw_P [.ref (ad 0), .int z1, .int z2, .int z3] D (wR ad ca P S G) (tR ca) sz) (rw_Qv post D (wR ad ca P S G) (fun u => wR ad ca (P1 u) (Sx u) (G1 u)) sz) 0 0 (va_A (wR ad ca P S G) sz)) (sz : Nat) : Met l y_L_swap w_L_swap { frames := 11, cells := 0, slots := 0, locals := 410 } (lw_PW [.ref (ad 0), .int z1, .int z2, .int z3] D (wR ad ca P S G) (tR ca) sz) (rw_Qi (fun (r : Int32) (u : S1) => r = nI 0 ∧ post u) D (wR ad ca P S G) (fun u => wR ad ca (P1 u) (Sx u) (G1 u)) sz) 0 0 (va_A (wR ad ca P S G) sz) := by
  refine va_MetW (cc := b_L_swap) (maxL := 5) (ret := (some .int)) (by decide) rfl ?_
  intro p e s m args below meth c s₁ B hml hv
  obtain ⟨rfl, hsz, hN, hX, hCX, hP, hK, hD0⟩ := hv
  have hx := B.exec
  have hb := B.bytes
  have hr := B.returns
  have hts := atoms_spec (ws := w_L_swap) B.pre
  have htb : ∀ w ∈ TBG, w.before [.ref (ad 0), .int z1, .int z2, .int z3].toArray s = true := fun w h => hts w (List.mem_cons_of_mem _ h)
  have hown : s.vm.findClass R_L = some m.cls := findClass_of_methodNamed B.named
  have hlocks := B.notSynchronized
  subst hsz
  have hD := hD0.self (sz := s.heap.size)
  have hPs := hP
  unfold rw_Qi
  generalize hAe : va_A (wR ad ca P S G) s.heap.size = A at hD ⊢
  have hA : ∀ q : Nat, s.heap.size ≤ q → A q := fun q h => by rw [← hAe]; exact Or.inr h
  have hS : va_S A s.heap s.heap [] := va_S.rf
  have hl := lv_entry ([.ref (ad 0), .int z1, .int z2, .int z3]) (n := 5) (Nat.le_of_ble_eq_true rfl)
  rw [lg_entry_eq]
  generalize (lg_sl ([.ref (ad 0), .int z1, .int z2, .int z3]) ++ List.replicate (5 - (lg_sl ([.ref (ad 0), .int z1, .int z2, .int z3])).length) Slot.unset).toArray = ls at hl ⊢
  have hl : lv_has ls 5 [(0, .ref (ad 0)), (1, .int z1), (2, .int z2), (3, .int z3)] := hl
  refine nr_start hP hS (fun H locs hP hS => ?_)
  refine lv_aload_n hx hb d_L_swap_0 rfl (lv_at hl 0 rfl) ?_
  refine lv_iload_n hx hb d_L_swap_1 rfl (lv_at hl 1 rfl) ?_
  refine lv_iload_n hx hb d_L_swap_2 rfl (lv_at hl 2 rfl) ?_
  refine lv_iload_n hx hb d_L_swap_3 rfl (lv_at hl 3 rfl) ?_
  refine nr_callv (wr := ([] : va_W)) (va_runV (As := [.int z1, .int z2, .int z3]) (rest := []) ⟨hx, hb, hml, hown, hts⟩ (hM H.size) ⟨callB_of 3 hts (gTB q_R_swap) rfl hrm.1 hrm.2.1 (htb _ q1) (htb _ q520) hd_R_swap ⟨by show rmc.frames + 1 ≤ 11; have := hrm.2.2.1; omega, by show 8 + (4 + 11) + rmc.locals ≤ 410; have := hrm.2.2.2; omega⟩, (htb _ q521), (htb _ q522)⟩ ⟨rw_blind, va_recv (hK.sub (tys' := []) [] rfl) hP (ci := 2) (q0 := 15) rfl rfl, rw_pre hN (hP.sub (ws' := wR ad ca P S G) [0, 1, 2, 3, 4, 5, 6, 7, 8, 9, 10, 11, 12, 13, 14, 15, 16, 17] rfl) (hK.sub (tys' := tR ca) [0, 1, 2, 3, 4, 5, 6, 7, 8, 9, 10, 11, 12, 13, 14] rfl) (hD.sub (ws' := wR ad ca P S G) [0, 1, 2, 3, 4, 5, 6, 7, 8, 9, 10, 11, 12, 13, 14, 15, 16, 17] (by decide) rfl)⟩ rfl rfl hl.1 rfl (lv_room (Nat.le_of_ble_eq_true rfl)) d_L_swap_4 ⟨Nat.le_of_ble_eq_true rfl, Nat.le_of_ble_eq_true rfl⟩) hP hD hS hA [0, 1, 2, 3, 4, 5, 6, 7, 8, 9, 10, 11, 12, 13, 14, 15, 16, 17] [] rfl rfl (by decide) (by decide) (fun u H locs hu hP hD hS => ?_)
  refine lv_goto (tgt := 18) hx hb d_L_swap_7 (by decide) ?_
  refine nr_iconst hx hb 0 d_L_swap_18 (by decide) ?_
  exact W.iret (v := (nI 0)) hx hb hr (fun t ht hW => ⟨⟨_, u, rfl, ⟨rfl, hu⟩, by rw [ht]; exact hP, hD⟩, hS.F ht⟩) hS.2.2 d_L_swap_19
set_option maxHeartbeats 4000000 in
set_option maxRecDepth 100000 in
theorem e_L_swap_1 (l : Launch) (D : va_G) (ad : Nat → Nat) (ca : Nat → ClassId) (P S G : Nat → Nat → Nat) (z1 z2 z3 : Int32) {rmc : Room} (hrm : rmc.cells = 1 ∧ rmc.slots = 6 ∧ rmc.frames ≤ 10 ∧ rmc.locals ≤ 380) (hM : ∀ sz, MetT l y_R_swap w_R_swap rmc (tw_P [.ref (ad 0), .int z1, .int z2, .int z3] D (wR ad ca P S G) (tR ca) sz) (tqw "java/lang/IllegalArgumentException" D (wR ad ca P S G)) 1 6 (va_A (wR ad ca P S G) sz)) (sz : Nat) : Met l y_L_swap w_L_swap { frames := 11, cells := 1, slots := 6, locals := 410 } (lw_PW [.ref (ad 0), .int z1, .int z2, .int z3] D (wR ad ca P S G) (tR ca) sz) (rw_Qi (fun (r : Int32) (u : Unit) => r = nI 1 ∧ True) D (wR ad ca P S G) (fun _ => wR ad ca P S G) sz) 1 6 (va_A (wR ad ca P S G) sz) := by
  refine va_MetW (cc := b_L_swap) (maxL := 5) (ret := (some .int)) (by decide) rfl ?_
  intro p e s m args below meth c s₁ B hml hv
  obtain ⟨rfl, hsz, hN, hX, hCX, hP, hK, hD0⟩ := hv
  have hx := B.exec
  have hb := B.bytes
  have hr := B.returns
  have hts := atoms_spec (ws := w_L_swap) B.pre
  have htb : ∀ w ∈ TBG, w.before [.ref (ad 0), .int z1, .int z2, .int z3].toArray s = true := fun w h => hts w (List.mem_cons_of_mem _ h)
  have hown : s.vm.findClass R_L = some m.cls := findClass_of_methodNamed B.named
  have hlocks := B.notSynchronized
  subst hsz
  have hD := hD0.self (sz := s.heap.size)
  have hPs := hP
  unfold rw_Qi
  generalize hAe : va_A (wR ad ca P S G) s.heap.size = A at hD ⊢
  have hA : ∀ q : Nat, s.heap.size ≤ q → A q := fun q h => by rw [← hAe]; exact Or.inr h
  have hS : va_S A s.heap s.heap [] := va_S.rf
  have hl := lv_entry ([.ref (ad 0), .int z1, .int z2, .int z3]) (n := 5) (Nat.le_of_ble_eq_true rfl)
  rw [lg_entry_eq]
  generalize (lg_sl ([.ref (ad 0), .int z1, .int z2, .int z3]) ++ List.replicate (5 - (lg_sl ([.ref (ad 0), .int z1, .int z2, .int z3])).length) Slot.unset).toArray = ls at hl ⊢
  have hl : lv_has ls 5 [(0, .ref (ad 0)), (1, .int z1), (2, .int z2), (3, .int z3)] := hl
  refine nr_start hP hS (fun H locs hP hS => ?_)
  refine lv_aload_n hx hb d_L_swap_0 rfl (lv_at hl 0 rfl) ?_
  refine lv_iload_n hx hb d_L_swap_1 rfl (lv_at hl 1 rfl) ?_
  refine lv_iload_n hx hb d_L_swap_2 rfl (lv_at hl 2 rfl) ?_
  refine lv_iload_n hx hb d_L_swap_3 rfl (lv_at hl 3 rfl) ?_
  refine nr_caught (wr := ([] : va_W)) (y := y_L_swap) (nr_runVT (As := [.int z1, .int z2, .int z3]) (rest := []) ⟨hx, hb, hml, hown, hts⟩ (hM H.size).more ⟨callB_of 3 hts (gTB q_R_swap) rfl hrm.1 hrm.2.1 (htb _ q1) (htb _ q520) hd_R_swap ⟨by show rmc.frames + 1 ≤ 11; have := hrm.2.2.1; omega, by show 8 + (4 + 11) + rmc.locals ≤ 410; have := hrm.2.2.2; omega⟩, (htb _ q521), (htb _ q522)⟩ ⟨tw_blind, va_recv (hK.sub (tys' := []) [] rfl) hP (ci := 2) (q0 := 15) rfl rfl, fun U hU hW => ⟨rfl, by rw [hU], hN.warm hW, tx_keep hX hPs (by rw [hAe]; exact hS) U hU hW, by rw [hU]; exact (hP.sub (ws' := wR ad ca P S G) [0, 1, 2, 3, 4, 5, 6, 7, 8, 9, 10, 11, 12, 13, 14, 15, 16, 17] rfl), va_K.moved hW.alike (hK.sub (tys' := tR ca) [0, 1, 2, 3, 4, 5, 6, 7, 8, 9, 10, 11, 12, 13, 14] rfl), (hD.sub (ws' := wR ad ca P S G) [0, 1, 2, 3, 4, 5, 6, 7, 8, 9, 10, 11, 12, 13, 14, 15, 16, 17] (by decide) rfl).weaken (fun _ _ _ _ => trivial)⟩⟩ rfl rfl hl.1 rfl (lv_room (Nat.le_of_ble_eq_true rfl)) d_L_swap_4 ⟨Nat.le_of_ble_eq_true rfl, Nat.le_of_ble_eq_true rfl⟩) (hts _ List.mem_cons_self) B.named hown hCX (by decide) 0 rfl (by decide) (by decide) (by decide) (htb _ q359) (hX.words _ _ x9) (fun _ h => absurd h List.not_mem_nil) hP hD hS hA (hD.sub (ws' := wR ad ca P S G) [0, 1, 2, 3, 4, 5, 6, 7, 8, 9, 10, 11, 12, 13, 14, 15, 16, 17] (by decide) rfl) [0, 1, 2, 3, 4, 5, 6, 7, 8, 9, 10, 11, 12, 13, 14, 15, 16, 17] [] rfl rfl (by decide) (by decide) (fun v H locs hP hD hS => ?_)
  refine lv_astore (lv' := [(4, .ref v), (0, .ref (ad 0)), (1, .int z1), (2, .int z2), (3, .int z3)]) hx hb d_L_swap_10 hl (by decide) rfl (fun ls hl => ?_)
  refine nr_iconst hx hb 1 d_L_swap_12 (by decide) ?_
  exact W.iret (v := (nI 1)) hx hb hr (fun t ht hW => ⟨⟨_, (), rfl, ⟨rfl, trivial⟩, by rw [ht]; exact hP, hD⟩, hS.F ht⟩) hS.2.2 d_L_swap_13
set_option maxHeartbeats 4000000 in
set_option maxRecDepth 100000 in
theorem e_L_swap_2 (l : Launch) (D : va_G) (ad : Nat → Nat) (ca : Nat → ClassId) (P S G : Nat → Nat → Nat) (z1 z2 z3 : Int32) {rmc : Room} (hrm : rmc.cells = 1 ∧ rmc.slots = 6 ∧ rmc.frames ≤ 10 ∧ rmc.locals ≤ 380) (hM : ∀ sz, MetT l y_R_swap w_R_swap rmc (tw_P [.ref (ad 0), .int z1, .int z2, .int z3] D (wR ad ca P S G) (tR ca) sz) (tqw "java/lang/IllegalStateException" D (wR ad ca P S G)) 1 6 (va_A (wR ad ca P S G) sz)) (sz : Nat) : Met l y_L_swap w_L_swap { frames := 11, cells := 1, slots := 6, locals := 410 } (lw_PW [.ref (ad 0), .int z1, .int z2, .int z3] D (wR ad ca P S G) (tR ca) sz) (rw_Qi (fun (r : Int32) (u : Unit) => r = nI 2 ∧ True) D (wR ad ca P S G) (fun _ => wR ad ca P S G) sz) 1 6 (va_A (wR ad ca P S G) sz) := by
  refine va_MetW (cc := b_L_swap) (maxL := 5) (ret := (some .int)) (by decide) rfl ?_
  intro p e s m args below meth c s₁ B hml hv
  obtain ⟨rfl, hsz, hN, hX, hCX, hP, hK, hD0⟩ := hv
  have hx := B.exec
  have hb := B.bytes
  have hr := B.returns
  have hts := atoms_spec (ws := w_L_swap) B.pre
  have htb : ∀ w ∈ TBG, w.before [.ref (ad 0), .int z1, .int z2, .int z3].toArray s = true := fun w h => hts w (List.mem_cons_of_mem _ h)
  have hown : s.vm.findClass R_L = some m.cls := findClass_of_methodNamed B.named
  have hlocks := B.notSynchronized
  subst hsz
  have hD := hD0.self (sz := s.heap.size)
  have hPs := hP
  unfold rw_Qi
  generalize hAe : va_A (wR ad ca P S G) s.heap.size = A at hD ⊢
  have hA : ∀ q : Nat, s.heap.size ≤ q → A q := fun q h => by rw [← hAe]; exact Or.inr h
  have hS : va_S A s.heap s.heap [] := va_S.rf
  have hl := lv_entry ([.ref (ad 0), .int z1, .int z2, .int z3]) (n := 5) (Nat.le_of_ble_eq_true rfl)
  rw [lg_entry_eq]
  generalize (lg_sl ([.ref (ad 0), .int z1, .int z2, .int z3]) ++ List.replicate (5 - (lg_sl ([.ref (ad 0), .int z1, .int z2, .int z3])).length) Slot.unset).toArray = ls at hl ⊢
  have hl : lv_has ls 5 [(0, .ref (ad 0)), (1, .int z1), (2, .int z2), (3, .int z3)] := hl
  refine nr_start hP hS (fun H locs hP hS => ?_)
  refine lv_aload_n hx hb d_L_swap_0 rfl (lv_at hl 0 rfl) ?_
  refine lv_iload_n hx hb d_L_swap_1 rfl (lv_at hl 1 rfl) ?_
  refine lv_iload_n hx hb d_L_swap_2 rfl (lv_at hl 2 rfl) ?_
  refine lv_iload_n hx hb d_L_swap_3 rfl (lv_at hl 3 rfl) ?_
  refine nr_caught (wr := ([] : va_W)) (y := y_L_swap) (nr_runVT (As := [.int z1, .int z2, .int z3]) (rest := []) ⟨hx, hb, hml, hown, hts⟩ (hM H.size).more ⟨callB_of 3 hts (gTB q_R_swap) rfl hrm.1 hrm.2.1 (htb _ q1) (htb _ q520) hd_R_swap ⟨by show rmc.frames + 1 ≤ 11; have := hrm.2.2.1; omega, by show 8 + (4 + 11) + rmc.locals ≤ 410; have := hrm.2.2.2; omega⟩, (htb _ q521), (htb _ q522)⟩ ⟨tw_blind, va_recv (hK.sub (tys' := []) [] rfl) hP (ci := 2) (q0 := 15) rfl rfl, fun U hU hW => ⟨rfl, by rw [hU], hN.warm hW, tx_keep hX hPs (by rw [hAe]; exact hS) U hU hW, by rw [hU]; exact (hP.sub (ws' := wR ad ca P S G) [0, 1, 2, 3, 4, 5, 6, 7, 8, 9, 10, 11, 12, 13, 14, 15, 16, 17] rfl), va_K.moved hW.alike (hK.sub (tys' := tR ca) [0, 1, 2, 3, 4, 5, 6, 7, 8, 9, 10, 11, 12, 13, 14] rfl), (hD.sub (ws' := wR ad ca P S G) [0, 1, 2, 3, 4, 5, 6, 7, 8, 9, 10, 11, 12, 13, 14, 15, 16, 17] (by decide) rfl).weaken (fun _ _ _ _ => trivial)⟩⟩ rfl rfl hl.1 rfl (lv_room (Nat.le_of_ble_eq_true rfl)) d_L_swap_4 ⟨Nat.le_of_ble_eq_true rfl, Nat.le_of_ble_eq_true rfl⟩) (hts _ List.mem_cons_self) B.named hown hCX (by decide) 1 rfl (by decide) (by decide) (by decide) (htb _ q417) (hX.words _ _ x10) (List.forall_mem_cons.mpr ⟨⟨by decide, "java/lang/IllegalArgumentException", by decide, by decide, (htb _ q359)⟩, (fun _ h => absurd h List.not_mem_nil)⟩) hP hD hS hA (hD.sub (ws' := wR ad ca P S G) [0, 1, 2, 3, 4, 5, 6, 7, 8, 9, 10, 11, 12, 13, 14, 15, 16, 17] (by decide) rfl) [0, 1, 2, 3, 4, 5, 6, 7, 8, 9, 10, 11, 12, 13, 14, 15, 16, 17] [] rfl rfl (by decide) (by decide) (fun v H locs hP hD hS => ?_)
  refine lv_astore (lv' := [(4, .ref v), (0, .ref (ad 0)), (1, .int z1), (2, .int z2), (3, .int z3)]) hx hb d_L_swap_14 hl (by decide) rfl (fun ls hl => ?_)
  refine nr_iconst hx hb 2 d_L_swap_16 (by decide) ?_
  exact W.iret (v := (nI 2)) hx hb hr (fun t ht hW => ⟨⟨_, (), rfl, ⟨rfl, trivial⟩, by rw [ht]; exact hP, hD⟩, hS.F ht⟩) hS.2.2 d_L_swap_17
set_option maxHeartbeats 4000000 in
set_option maxRecDepth 100000 in
theorem o_L_shift (l : Launch) (D : va_G) (ad : Nat → Nat) (ca : Nat → ClassId) (P S G : Nat → Nat → Nat) (ao : Nat) (co : ClassId) (vo : Nat → Int64) (z1 z2 : Int32) {rmc : Room} {S1 : Type} {post : Int32 → S1 → Prop} {P1 Sx G1 : S1 → Nat → Nat → Nat} (hrm : rmc.cells = 0 ∧ rmc.slots = 0 ∧ rmc.frames ≤ 10 ∧ rmc.locals ≤ 380) (hM : ∀ sz, Met l y_R_shift w_R_shift rmc (rw_P [.ref (ad 0), .int z1, .int z2] D (wR ad ca P S G) (tR ca) sz) (rw_Qi post D (wR ad ca P S G) (fun u => wR ad ca (P1 u) (Sx u) (G1 u)) sz) 0 0 (va_A (wR ad ca P S G) sz)) (sz : Nat) : Met l y_L_shift w_L_shift { frames := 11, cells := 0, slots := 0, locals := 410 } (lw_PW [.ref (ad 0), .int z1, .int z2, .ref ao] D (wRo ad ca P S G ao co vo) (tRo ca co) sz) (rw_Qi (fun (r : Int32) (u : Int32 × S1) => r = nI 0 ∧ post u.1 u.2) D (wRo ad ca P S G ao co vo) (fun u => wRo ad ca (P1 u.2) (Sx u.2) (G1 u.2) ao co (vp_updL vo 0 u.1.toInt64)) sz) 0 0 (va_A (wRo ad ca P S G ao co vo) sz) := by
  refine va_MetW (cc := b_L_shift) (maxL := 5) (ret := (some .int)) (by decide) rfl ?_
  intro p e s m args below meth c s₁ B hml hv
  obtain ⟨rfl, hsz, hN, hX, hCX, hP, hK, hD0⟩ := hv
  have hx := B.exec
  have hb := B.bytes
  have hr := B.returns
  have hts := atoms_spec (ws := w_L_shift) B.pre
  have htb : ∀ w ∈ TBG, w.before [.ref (ad 0), .int z1, .int z2, .ref ao].toArray s = true := fun w h => hts w (List.mem_cons_of_mem _ h)
  have hown : s.vm.findClass R_L = some m.cls := findClass_of_methodNamed B.named
  have hlocks := B.notSynchronized
  subst hsz
  have hD := hD0.self (sz := s.heap.size)
  have hPs := hP
  unfold rw_Qi
  generalize hAe : va_A (wRo ad ca P S G ao co vo) s.heap.size = A at hD ⊢
  have hA : ∀ q : Nat, s.heap.size ≤ q → A q := fun q h => by rw [← hAe]; exact Or.inr h
  have hS : va_S A s.heap s.heap [] := va_S.rf
  have hl := lv_entry ([.ref (ad 0), .int z1, .int z2, .ref ao]) (n := 5) (Nat.le_of_ble_eq_true rfl)
  rw [lg_entry_eq]
  generalize (lg_sl ([.ref (ad 0), .int z1, .int z2, .ref ao]) ++ List.replicate (5 - (lg_sl ([.ref (ad 0), .int z1, .int z2, .ref ao])).length) Slot.unset).toArray = ls at hl ⊢
  have hl : lv_has ls 5 [(0, .ref (ad 0)), (1, .int z1), (2, .int z2), (3, .ref ao)] := hl
  refine nr_start hP hS (fun H locs hP hS => ?_)
  refine lv_aload_n hx hb d_L_shift_0 rfl (lv_at hl 3 rfl) ?_
  refine nr_iconst hx hb 0 d_L_shift_1 (by decide) ?_
  refine lv_aload_n hx hb d_L_shift_2 rfl (lv_at hl 0 rfl) ?_
  refine lv_iload_n hx hb d_L_shift_3 rfl (lv_at hl 1 rfl) ?_
  refine lv_iload_n hx hb d_L_shift_4 rfl (lv_at hl 2 rfl) ?_
  refine nr_callwi (wr := [(ao, .inl (co, 1, .inr (.inl vo)))]) (va_runV (As := [.int z1, .int z2]) (rest := [.int (nI 0), .ref ao]) ⟨hx, hb, hml, hown, hts⟩ (hM H.size) ⟨callB_of 2 hts (gTB q_R_shift) rfl hrm.1 hrm.2.1 (htb _ q1) (htb _ q536) hd_R_shift ⟨by show rmc.frames + 1 ≤ 11; have := hrm.2.2.1; omega, by show 8 + (3 + 11) + rmc.locals ≤ 410; have := hrm.2.2.2; omega⟩, (htb _ q537), (htb _ q538)⟩ ⟨rw_blind, va_recv (hK.sub (tys' := []) [] rfl) hP (ci := 2) (q0 := 15) rfl rfl, rw_pre hN (hP.sub (ws' := wR ad ca P S G) [0, 1, 2, 3, 4, 5, 6, 7, 8, 9, 10, 11, 12, 13, 14, 15, 16, 17] rfl) (hK.sub (tys' := tR ca) [0, 1, 2, 3, 4, 5, 6, 7, 8, 9, 10, 11, 12, 13, 14] rfl) (hD.sub (ws' := wR ad ca P S G) [0, 1, 2, 3, 4, 5, 6, 7, 8, 9, 10, 11, 12, 13, 14, 15, 16, 17] (by decide) rfl)⟩ rfl rfl hl.1 rfl (lv_room (Nat.le_of_ble_eq_true rfl)) d_L_shift_5 ⟨Nat.le_of_ble_eq_true rfl, Nat.le_of_ble_eq_true rfl⟩) hP hD hS hA [0, 1, 2, 3, 4, 5, 6, 7, 8, 9, 10, 11, 12, 13, 14, 15, 16, 17] [18] rfl rfl (by decide) (by decide) (fun r u H locs hu hP hD hS => ?_)
  replace hP := hP.sub (ws' := wRo ad ca (P1 u) (Sx u) (G1 u) ao co vo) [1, 2, 3, 4, 5, 6, 7, 8, 9, 10, 11, 12, 13, 14, 15, 16, 17, 18, 0] rfl
  replace hD := hD.sub (ws' := wRo ad ca (P1 u) (Sx u) (G1 u) ao co vo) [1, 2, 3, 4, 5, 6, 7, 8, 9, 10, 11, 12, 13, 14, 15, 16, 17, 18, 0] (by decide) rfl
  refine lv_i2l (v := r.toInt64) hx hb d_L_shift_8 rfl ?_
  refine va_last hx hb hK hP hD hS 18 15 rfl rfl (nI_in (by decide) (by decide)) d_L_shift_9 (fun H locs hP hD hS => ?_)
  replace hP : va_P D cls (wRo ad ca (P1 u) (Sx u) (G1 u) ao co (vp_updL vo 0 r.toInt64)) H := hP
  replace hD : va_D A (wRo ad ca (P1 u) (Sx u) (G1 u) ao co (vp_updL vo 0 r.toInt64)) := hD
  refine lv_goto (tgt := 17) hx hb d_L_shift_10 (by decide) ?_
  refine nr_iconst hx hb 0 d_L_shift_17 (by decide) ?_
  exact W.iret (v := (nI 0)) hx hb hr (fun t ht hW => ⟨⟨_, (r, u), rfl, ⟨rfl, hu⟩, by rw [ht]; exact hP, hD⟩, hS.F ht⟩) hS.2.2 d_L_shift_18
set_option maxHeartbeats 4000000 in
set_option maxRecDepth 100000 in
theorem e_L_shift_1 (l : Launch) (D : va_G) (ad : Nat → Nat) (ca : Nat → ClassId) (P S G : Nat → Nat → Nat) (ao : Nat) (co : ClassId) (vo : Nat → Int64) (z1 z2 : Int32) {rmc : Room} (hrm : rmc.cells = 1 ∧ rmc.slots = 6 ∧ rmc.frames ≤ 10 ∧ rmc.locals ≤ 380) (hM : ∀ sz, MetT l y_R_shift w_R_shift rmc (tw_P [.ref (ad 0), .int z1, .int z2] D (wR ad ca P S G) (tR ca) sz) (tqw "java/lang/IllegalArgumentException" D (wR ad ca P S G)) 1 6 (va_A (wR ad ca P S G) sz)) (sz : Nat) : Met l y_L_shift w_L_shift { frames := 11, cells := 1, slots := 6, locals := 410 } (lw_PW [.ref (ad 0), .int z1, .int z2, .ref ao] D (wRo ad ca P S G ao co vo) (tRo ca co) sz) (rw_Qi (fun (r : Int32) (u : Unit) => r = nI 1 ∧ True) D (wRo ad ca P S G ao co vo) (fun _ => wRo ad ca P S G ao co vo) sz) 1 6 (va_A (wRo ad ca P S G ao co vo) sz) := by
  refine va_MetW (cc := b_L_shift) (maxL := 5) (ret := (some .int)) (by decide) rfl ?_
  intro p e s m args below meth c s₁ B hml hv
  obtain ⟨rfl, hsz, hN, hX, hCX, hP, hK, hD0⟩ := hv
  have hx := B.exec
  have hb := B.bytes
  have hr := B.returns
  have hts := atoms_spec (ws := w_L_shift) B.pre
  have htb : ∀ w ∈ TBG, w.before [.ref (ad 0), .int z1, .int z2, .ref ao].toArray s = true := fun w h => hts w (List.mem_cons_of_mem _ h)
  have hown : s.vm.findClass R_L = some m.cls := findClass_of_methodNamed B.named
  have hlocks := B.notSynchronized
  subst hsz
  have hD := hD0.self (sz := s.heap.size)
  have hPs := hP
  unfold rw_Qi
  generalize hAe : va_A (wRo ad ca P S G ao co vo) s.heap.size = A at hD ⊢
  have hA : ∀ q : Nat, s.heap.size ≤ q → A q := fun q h => by rw [← hAe]; exact Or.inr h
  have hS : va_S A s.heap s.heap [] := va_S.rf
  have hl := lv_entry ([.ref (ad 0), .int z1, .int z2, .ref ao]) (n := 5) (Nat.le_of_ble_eq_true rfl)
  rw [lg_entry_eq]
  generalize (lg_sl ([.ref (ad 0), .int z1, .int z2, .ref ao]) ++ List.replicate (5 - (lg_sl ([.ref (ad 0), .int z1, .int z2, .ref ao])).length) Slot.unset).toArray = ls at hl ⊢
  have hl : lv_has ls 5 [(0, .ref (ad 0)), (1, .int z1), (2, .int z2), (3, .ref ao)] := hl
  refine nr_start hP hS (fun H locs hP hS => ?_)
  refine lv_aload_n hx hb d_L_shift_0 rfl (lv_at hl 3 rfl) ?_
  refine nr_iconst hx hb 0 d_L_shift_1 (by decide) ?_
  refine lv_aload_n hx hb d_L_shift_2 rfl (lv_at hl 0 rfl) ?_
  refine lv_iload_n hx hb d_L_shift_3 rfl (lv_at hl 1 rfl) ?_
  refine lv_iload_n hx hb d_L_shift_4 rfl (lv_at hl 2 rfl) ?_
  refine nr_caught (wr := [(ao, .inl (co, 1, .inr (.inl vo)))]) (y := y_L_shift) (nr_runVT (As := [.int z1, .int z2]) (rest := [.int (nI 0), .ref ao]) ⟨hx, hb, hml, hown, hts⟩ (hM H.size).more ⟨callB_of 2 hts (gTB q_R_shift) rfl hrm.1 hrm.2.1 (htb _ q1) (htb _ q536) hd_R_shift ⟨by show rmc.frames + 1 ≤ 11; have := hrm.2.2.1; omega, by show 8 + (3 + 11) + rmc.locals ≤ 410; have := hrm.2.2.2; omega⟩, (htb _ q537), (htb _ q538)⟩ ⟨tw_blind, va_recv (hK.sub (tys' := []) [] rfl) hP (ci := 2) (q0 := 15) rfl rfl, fun U hU hW => ⟨rfl, by rw [hU], hN.warm hW, tx_keep hX hPs (by rw [hAe]; exact hS) U hU hW, by rw [hU]; exact (hP.sub (ws' := wR ad ca P S G) [0, 1, 2, 3, 4, 5, 6, 7, 8, 9, 10, 11, 12, 13, 14, 15, 16, 17] rfl), va_K.moved hW.alike (hK.sub (tys' := tR ca) [0, 1, 2, 3, 4, 5, 6, 7, 8, 9, 10, 11, 12, 13, 14] rfl), (hD.sub (ws' := wR ad ca P S G) [0, 1, 2, 3, 4, 5, 6, 7, 8, 9, 10, 11, 12, 13, 14, 15, 16, 17] (by decide) rfl).weaken (fun _ _ _ _ => trivial)⟩⟩ rfl rfl hl.1 rfl (lv_room (Nat.le_of_ble_eq_true rfl)) d_L_shift_5 ⟨Nat.le_of_ble_eq_true rfl, Nat.le_of_ble_eq_true rfl⟩) (hts _ List.mem_cons_self) B.named hown hCX (by decide) 0 rfl (by decide) (by decide) (by decide) (htb _ q359) (hX.words _ _ x9) (fun _ h => absurd h List.not_mem_nil) hP hD hS hA (hD.sub (ws' := wR ad ca P S G) [0, 1, 2, 3, 4, 5, 6, 7, 8, 9, 10, 11, 12, 13, 14, 15, 16, 17] (by decide) rfl) [0, 1, 2, 3, 4, 5, 6, 7, 8, 9, 10, 11, 12, 13, 14, 15, 16, 17] [18] rfl rfl (by decide) (by decide) (fun v H locs hP hD hS => ?_)
  replace hP := hP.sub (ws' := wRo ad ca P S G ao co vo) [1, 2, 3, 4, 5, 6, 7, 8, 9, 10, 11, 12, 13, 14, 15, 16, 17, 18, 0] rfl
  replace hD := hD.sub (ws' := wRo ad ca P S G ao co vo) [1, 2, 3, 4, 5, 6, 7, 8, 9, 10, 11, 12, 13, 14, 15, 16, 17, 18, 0] (by decide) rfl
  refine lv_astore (lv' := [(4, .ref v), (0, .ref (ad 0)), (1, .int z1), (2, .int z2), (3, .ref ao)]) hx hb d_L_shift_13 hl (by decide) rfl (fun ls hl => ?_)
  refine nr_iconst hx hb 1 d_L_shift_15 (by decide) ?_
  exact W.iret (v := (nI 1)) hx hb hr (fun t ht hW => ⟨⟨_, (), rfl, ⟨rfl, trivial⟩, by rw [ht]; exact hP, hD⟩, hS.F ht⟩) hS.2.2 d_L_shift_16
set_option maxHeartbeats 4000000 in
set_option maxRecDepth 100000 in
theorem o_L_share (l : Launch) (D : va_G) (ad : Nat → Nat) (ca : Nat → ClassId) (P S G : Nat → Nat → Nat) (ao : Nat) (co : ClassId) (vo : Nat → Int64) (z1 : Int32) {rmc : Room} {S1 : Type} {post : Int32 → S1 → Prop} {P1 Sx G1 : S1 → Nat → Nat → Nat} (hrm : rmc.cells = 0 ∧ rmc.slots = 0 ∧ rmc.frames ≤ 10 ∧ rmc.locals ≤ 380) (hM : ∀ sz, Met l y_R_share w_R_share rmc (rw_P [.ref (ad 0), .int z1] D (wR ad ca P S G) (tR ca) sz) (rw_Qi post D (wR ad ca P S G) (fun u => wR ad ca (P1 u) (Sx u) (G1 u)) sz) 0 0 (va_A (wR ad ca P S G) sz)) (sz : Nat) : Met l y_L_share w_L_share { frames := 11, cells := 0, slots := 0, locals := 410 } (lw_PW [.ref (ad 0), .int z1, .ref ao] D (wRo ad ca P S G ao co vo) (tRo ca co) sz) (rw_Qi (fun (r : Int32) (u : Int32 × S1) => r = nI 0 ∧ post u.1 u.2) D (wRo ad ca P S G ao co vo) (fun u => wRo ad ca (P1 u.2) (Sx u.2) (G1 u.2) ao co (vp_updL vo 0 u.1.toInt64)) sz) 0 0 (va_A (wRo ad ca P S G ao co vo) sz) := by
  refine va_MetW (cc := b_L_share) (maxL := 4) (ret := (some .int)) (by decide) rfl ?_
  intro p e s m args below meth c s₁ B hml hv
  obtain ⟨rfl, hsz, hN, hX, hCX, hP, hK, hD0⟩ := hv
  have hx := B.exec
  have hb := B.bytes
  have hr := B.returns
  have hts := atoms_spec (ws := w_L_share) B.pre
  have htb : ∀ w ∈ TBG, w.before [.ref (ad 0), .int z1, .ref ao].toArray s = true := fun w h => hts w (List.mem_cons_of_mem _ h)
  have hown : s.vm.findClass R_L = some m.cls := findClass_of_methodNamed B.named
  have hlocks := B.notSynchronized
  subst hsz
  have hD := hD0.self (sz := s.heap.size)
  have hPs := hP
  unfold rw_Qi
  generalize hAe : va_A (wRo ad ca P S G ao co vo) s.heap.size = A at hD ⊢
  have hA : ∀ q : Nat, s.heap.size ≤ q → A q := fun q h => by rw [← hAe]; exact Or.inr h
  have hS : va_S A s.heap s.heap [] := va_S.rf
  have hl := lv_entry ([.ref (ad 0), .int z1, .ref ao]) (n := 4) (Nat.le_of_ble_eq_true rfl)
  rw [lg_entry_eq]
  generalize (lg_sl ([.ref (ad 0), .int z1, .ref ao]) ++ List.replicate (4 - (lg_sl ([.ref (ad 0), .int z1, .ref ao])).length) Slot.unset).toArray = ls at hl ⊢
  have hl : lv_has ls 4 [(0, .ref (ad 0)), (1, .int z1), (2, .ref ao)] := hl
  refine nr_start hP hS (fun H locs hP hS => ?_)
  refine lv_aload_n hx hb d_L_share_0 rfl (lv_at hl 2 rfl) ?_
  refine nr_iconst hx hb 0 d_L_share_1 (by decide) ?_
  refine lv_aload_n hx hb d_L_share_2 rfl (lv_at hl 0 rfl) ?_
  refine lv_iload_n hx hb d_L_share_3 rfl (lv_at hl 1 rfl) ?_
  refine nr_callwi (wr := [(ao, .inl (co, 1, .inr (.inl vo)))]) (va_runV (As := [.int z1]) (rest := [.int (nI 0), .ref ao]) ⟨hx, hb, hml, hown, hts⟩ (hM H.size) ⟨callB_of 1 hts (gTB q_R_share) rfl hrm.1 hrm.2.1 (htb _ q1) (htb _ q544) hd_R_share ⟨by show rmc.frames + 1 ≤ 11; have := hrm.2.2.1; omega, by show 8 + (3 + 11) + rmc.locals ≤ 410; have := hrm.2.2.2; omega⟩, (htb _ q545), (htb _ q546)⟩ ⟨rw_blind, va_recv (hK.sub (tys' := []) [] rfl) hP (ci := 2) (q0 := 15) rfl rfl, rw_pre hN (hP.sub (ws' := wR ad ca P S G) [0, 1, 2, 3, 4, 5, 6, 7, 8, 9, 10, 11, 12, 13, 14, 15, 16, 17] rfl) (hK.sub (tys' := tR ca) [0, 1, 2, 3, 4, 5, 6, 7, 8, 9, 10, 11, 12, 13, 14] rfl) (hD.sub (ws' := wR ad ca P S G) [0, 1, 2, 3, 4, 5, 6, 7, 8, 9, 10, 11, 12, 13, 14, 15, 16, 17] (by decide) rfl)⟩ rfl rfl hl.1 rfl (lv_room (Nat.le_of_ble_eq_true rfl)) d_L_share_4 ⟨Nat.le_of_ble_eq_true rfl, Nat.le_of_ble_eq_true rfl⟩) hP hD hS hA [0, 1, 2, 3, 4, 5, 6, 7, 8, 9, 10, 11, 12, 13, 14, 15, 16, 17] [18] rfl rfl (by decide) (by decide) (fun r u H locs hu hP hD hS => ?_)
  replace hP := hP.sub (ws' := wRo ad ca (P1 u) (Sx u) (G1 u) ao co vo) [1, 2, 3, 4, 5, 6, 7, 8, 9, 10, 11, 12, 13, 14, 15, 16, 17, 18, 0] rfl
  replace hD := hD.sub (ws' := wRo ad ca (P1 u) (Sx u) (G1 u) ao co vo) [1, 2, 3, 4, 5, 6, 7, 8, 9, 10, 11, 12, 13, 14, 15, 16, 17, 18, 0] (by decide) rfl
  refine lv_i2l (v := r.toInt64) hx hb d_L_share_7 rfl ?_
  refine va_last hx hb hK hP hD hS 18 15 rfl rfl (nI_in (by decide) (by decide)) d_L_share_8 (fun H locs hP hD hS => ?_)
  replace hP : va_P D cls (wRo ad ca (P1 u) (Sx u) (G1 u) ao co (vp_updL vo 0 r.toInt64)) H := hP
  replace hD : va_D A (wRo ad ca (P1 u) (Sx u) (G1 u) ao co (vp_updL vo 0 r.toInt64)) := hD
  refine lv_goto (tgt := 18) hx hb d_L_share_9 (by decide) ?_
  refine nr_iconst hx hb 0 d_L_share_18 (by decide) ?_
  exact W.iret (v := (nI 0)) hx hb hr (fun t ht hW => ⟨⟨_, (r, u), rfl, ⟨rfl, hu⟩, by rw [ht]; exact hP, hD⟩, hS.F ht⟩) hS.2.2 d_L_share_19
set_option maxHeartbeats 4000000 in
set_option maxRecDepth 100000 in
theorem e_L_share_1 (l : Launch) (D : va_G) (ad : Nat → Nat) (ca : Nat → ClassId) (P S G : Nat → Nat → Nat) (ao : Nat) (co : ClassId) (vo : Nat → Int64) (z1 : Int32) {rmc : Room} (hrm : rmc.cells = 1 ∧ rmc.slots = 6 ∧ rmc.frames ≤ 10 ∧ rmc.locals ≤ 380) (hM : ∀ sz, MetT l y_R_share w_R_share rmc (tw_P [.ref (ad 0), .int z1] D (wR ad ca P S G) (tR ca) sz) (tqw "java/lang/IllegalArgumentException" D (wR ad ca P S G)) 1 6 (va_A (wR ad ca P S G) sz)) (sz : Nat) : Met l y_L_share w_L_share { frames := 11, cells := 1, slots := 6, locals := 410 } (lw_PW [.ref (ad 0), .int z1, .ref ao] D (wRo ad ca P S G ao co vo) (tRo ca co) sz) (rw_Qi (fun (r : Int32) (u : Unit) => r = nI 1 ∧ True) D (wRo ad ca P S G ao co vo) (fun _ => wRo ad ca P S G ao co vo) sz) 1 6 (va_A (wRo ad ca P S G ao co vo) sz) := by
  refine va_MetW (cc := b_L_share) (maxL := 4) (ret := (some .int)) (by decide) rfl ?_
  intro p e s m args below meth c s₁ B hml hv
  obtain ⟨rfl, hsz, hN, hX, hCX, hP, hK, hD0⟩ := hv
  have hx := B.exec
  have hb := B.bytes
  have hr := B.returns
  have hts := atoms_spec (ws := w_L_share) B.pre
  have htb : ∀ w ∈ TBG, w.before [.ref (ad 0), .int z1, .ref ao].toArray s = true := fun w h => hts w (List.mem_cons_of_mem _ h)
  have hown : s.vm.findClass R_L = some m.cls := findClass_of_methodNamed B.named
  have hlocks := B.notSynchronized
  subst hsz
  have hD := hD0.self (sz := s.heap.size)
  have hPs := hP
  unfold rw_Qi
  generalize hAe : va_A (wRo ad ca P S G ao co vo) s.heap.size = A at hD ⊢
  have hA : ∀ q : Nat, s.heap.size ≤ q → A q := fun q h => by rw [← hAe]; exact Or.inr h
  have hS : va_S A s.heap s.heap [] := va_S.rf
  have hl := lv_entry ([.ref (ad 0), .int z1, .ref ao]) (n := 4) (Nat.le_of_ble_eq_true rfl)
  rw [lg_entry_eq]
  generalize (lg_sl ([.ref (ad 0), .int z1, .ref ao]) ++ List.replicate (4 - (lg_sl ([.ref (ad 0), .int z1, .ref ao])).length) Slot.unset).toArray = ls at hl ⊢
  have hl : lv_has ls 4 [(0, .ref (ad 0)), (1, .int z1), (2, .ref ao)] := hl
  refine nr_start hP hS (fun H locs hP hS => ?_)
  refine lv_aload_n hx hb d_L_share_0 rfl (lv_at hl 2 rfl) ?_
  refine nr_iconst hx hb 0 d_L_share_1 (by decide) ?_
  refine lv_aload_n hx hb d_L_share_2 rfl (lv_at hl 0 rfl) ?_
  refine lv_iload_n hx hb d_L_share_3 rfl (lv_at hl 1 rfl) ?_
  refine nr_caught (wr := [(ao, .inl (co, 1, .inr (.inl vo)))]) (y := y_L_share) (nr_runVT (As := [.int z1]) (rest := [.int (nI 0), .ref ao]) ⟨hx, hb, hml, hown, hts⟩ (hM H.size).more ⟨callB_of 1 hts (gTB q_R_share) rfl hrm.1 hrm.2.1 (htb _ q1) (htb _ q544) hd_R_share ⟨by show rmc.frames + 1 ≤ 11; have := hrm.2.2.1; omega, by show 8 + (3 + 11) + rmc.locals ≤ 410; have := hrm.2.2.2; omega⟩, (htb _ q545), (htb _ q546)⟩ ⟨tw_blind, va_recv (hK.sub (tys' := []) [] rfl) hP (ci := 2) (q0 := 15) rfl rfl, fun U hU hW => ⟨rfl, by rw [hU], hN.warm hW, tx_keep hX hPs (by rw [hAe]; exact hS) U hU hW, by rw [hU]; exact (hP.sub (ws' := wR ad ca P S G) [0, 1, 2, 3, 4, 5, 6, 7, 8, 9, 10, 11, 12, 13, 14, 15, 16, 17] rfl), va_K.moved hW.alike (hK.sub (tys' := tR ca) [0, 1, 2, 3, 4, 5, 6, 7, 8, 9, 10, 11, 12, 13, 14] rfl), (hD.sub (ws' := wR ad ca P S G) [0, 1, 2, 3, 4, 5, 6, 7, 8, 9, 10, 11, 12, 13, 14, 15, 16, 17] (by decide) rfl).weaken (fun _ _ _ _ => trivial)⟩⟩ rfl rfl hl.1 rfl (lv_room (Nat.le_of_ble_eq_true rfl)) d_L_share_4 ⟨Nat.le_of_ble_eq_true rfl, Nat.le_of_ble_eq_true rfl⟩) (hts _ List.mem_cons_self) B.named hown hCX (by decide) 0 rfl (by decide) (by decide) (by decide) (htb _ q359) (hX.words _ _ x9) (fun _ h => absurd h List.not_mem_nil) hP hD hS hA (hD.sub (ws' := wR ad ca P S G) [0, 1, 2, 3, 4, 5, 6, 7, 8, 9, 10, 11, 12, 13, 14, 15, 16, 17] (by decide) rfl) [0, 1, 2, 3, 4, 5, 6, 7, 8, 9, 10, 11, 12, 13, 14, 15, 16, 17] [18] rfl rfl (by decide) (by decide) (fun v H locs hP hD hS => ?_)
  replace hP := hP.sub (ws' := wRo ad ca P S G ao co vo) [1, 2, 3, 4, 5, 6, 7, 8, 9, 10, 11, 12, 13, 14, 15, 16, 17, 18, 0] rfl
  replace hD := hD.sub (ws' := wRo ad ca P S G ao co vo) [1, 2, 3, 4, 5, 6, 7, 8, 9, 10, 11, 12, 13, 14, 15, 16, 17, 18, 0] (by decide) rfl
  refine lv_astore_n (lv' := [(3, .ref v), (0, .ref (ad 0)), (1, .int z1), (2, .ref ao)]) hx hb d_L_share_12 rfl hl (by decide) rfl (fun ls hl => ?_)
  refine nr_iconst hx hb 1 d_L_share_13 (by decide) ?_
  exact W.iret (v := (nI 1)) hx hb hr (fun t ht hW => ⟨⟨_, (), rfl, ⟨rfl, trivial⟩, by rw [ht]; exact hP, hD⟩, hS.F ht⟩) hS.2.2 d_L_share_14
set_option maxHeartbeats 4000000 in
set_option maxRecDepth 100000 in
theorem e_L_share_2 (l : Launch) (D : va_G) (ad : Nat → Nat) (ca : Nat → ClassId) (P S G : Nat → Nat → Nat) (ao : Nat) (co : ClassId) (vo : Nat → Int64) (z1 : Int32) {rmc : Room} (hrm : rmc.cells = 1 ∧ rmc.slots = 6 ∧ rmc.frames ≤ 10 ∧ rmc.locals ≤ 380) (hM : ∀ sz, MetT l y_R_share w_R_share rmc (tw_P [.ref (ad 0), .int z1] D (wR ad ca P S G) (tR ca) sz) (tqw "java/lang/ArithmeticException" D (wR ad ca P S G)) 1 6 (va_A (wR ad ca P S G) sz)) (sz : Nat) : Met l y_L_share w_L_share { frames := 11, cells := 1, slots := 6, locals := 410 } (lw_PW [.ref (ad 0), .int z1, .ref ao] D (wRo ad ca P S G ao co vo) (tRo ca co) sz) (rw_Qi (fun (r : Int32) (u : Unit) => r = nI 2 ∧ True) D (wRo ad ca P S G ao co vo) (fun _ => wRo ad ca P S G ao co vo) sz) 1 6 (va_A (wRo ad ca P S G ao co vo) sz) := by
  refine va_MetW (cc := b_L_share) (maxL := 4) (ret := (some .int)) (by decide) rfl ?_
  intro p e s m args below meth c s₁ B hml hv
  obtain ⟨rfl, hsz, hN, hX, hCX, hP, hK, hD0⟩ := hv
  have hx := B.exec
  have hb := B.bytes
  have hr := B.returns
  have hts := atoms_spec (ws := w_L_share) B.pre
  have htb : ∀ w ∈ TBG, w.before [.ref (ad 0), .int z1, .ref ao].toArray s = true := fun w h => hts w (List.mem_cons_of_mem _ h)
  have hown : s.vm.findClass R_L = some m.cls := findClass_of_methodNamed B.named
  have hlocks := B.notSynchronized
  subst hsz
  have hD := hD0.self (sz := s.heap.size)
  have hPs := hP
  unfold rw_Qi
  generalize hAe : va_A (wRo ad ca P S G ao co vo) s.heap.size = A at hD ⊢
  have hA : ∀ q : Nat, s.heap.size ≤ q → A q := fun q h => by rw [← hAe]; exact Or.inr h
  have hS : va_S A s.heap s.heap [] := va_S.rf
  have hl := lv_entry ([.ref (ad 0), .int z1, .ref ao]) (n := 4) (Nat.le_of_ble_eq_true rfl)
  rw [lg_entry_eq]
  generalize (lg_sl ([.ref (ad 0), .int z1, .ref ao]) ++ List.replicate (4 - (lg_sl ([.ref (ad 0), .int z1, .ref ao])).length) Slot.unset).toArray = ls at hl ⊢
  have hl : lv_has ls 4 [(0, .ref (ad 0)), (1, .int z1), (2, .ref ao)] := hl
  refine nr_start hP hS (fun H locs hP hS => ?_)
  refine lv_aload_n hx hb d_L_share_0 rfl (lv_at hl 2 rfl) ?_
  refine nr_iconst hx hb 0 d_L_share_1 (by decide) ?_
  refine lv_aload_n hx hb d_L_share_2 rfl (lv_at hl 0 rfl) ?_
  refine lv_iload_n hx hb d_L_share_3 rfl (lv_at hl 1 rfl) ?_
  refine nr_caught (wr := [(ao, .inl (co, 1, .inr (.inl vo)))]) (y := y_L_share) (nr_runVT (As := [.int z1]) (rest := [.int (nI 0), .ref ao]) ⟨hx, hb, hml, hown, hts⟩ (hM H.size).more ⟨callB_of 1 hts (gTB q_R_share) rfl hrm.1 hrm.2.1 (htb _ q1) (htb _ q544) hd_R_share ⟨by show rmc.frames + 1 ≤ 11; have := hrm.2.2.1; omega, by show 8 + (3 + 11) + rmc.locals ≤ 410; have := hrm.2.2.2; omega⟩, (htb _ q545), (htb _ q546)⟩ ⟨tw_blind, va_recv (hK.sub (tys' := []) [] rfl) hP (ci := 2) (q0 := 15) rfl rfl, fun U hU hW => ⟨rfl, by rw [hU], hN.warm hW, tx_keep hX hPs (by rw [hAe]; exact hS) U hU hW, by rw [hU]; exact (hP.sub (ws' := wR ad ca P S G) [0, 1, 2, 3, 4, 5, 6, 7, 8, 9, 10, 11, 12, 13, 14, 15, 16, 17] rfl), va_K.moved hW.alike (hK.sub (tys' := tR ca) [0, 1, 2, 3, 4, 5, 6, 7, 8, 9, 10, 11, 12, 13, 14] rfl), (hD.sub (ws' := wR ad ca P S G) [0, 1, 2, 3, 4, 5, 6, 7, 8, 9, 10, 11, 12, 13, 14, 15, 16, 17] (by decide) rfl).weaken (fun _ _ _ _ => trivial)⟩⟩ rfl rfl hl.1 rfl (lv_room (Nat.le_of_ble_eq_true rfl)) d_L_share_4 ⟨Nat.le_of_ble_eq_true rfl, Nat.le_of_ble_eq_true rfl⟩) (hts _ List.mem_cons_self) B.named hown hCX (by decide) 1 rfl (by decide) (by decide) (by decide) (htb _ q543) (hX.words _ _ x11) (List.forall_mem_cons.mpr ⟨⟨by decide, "java/lang/IllegalArgumentException", by decide, by decide, (htb _ q359)⟩, (fun _ h => absurd h List.not_mem_nil)⟩) hP hD hS hA (hD.sub (ws' := wR ad ca P S G) [0, 1, 2, 3, 4, 5, 6, 7, 8, 9, 10, 11, 12, 13, 14, 15, 16, 17] (by decide) rfl) [0, 1, 2, 3, 4, 5, 6, 7, 8, 9, 10, 11, 12, 13, 14, 15, 16, 17] [18] rfl rfl (by decide) (by decide) (fun v H locs hP hD hS => ?_)
  replace hP := hP.sub (ws' := wRo ad ca P S G ao co vo) [1, 2, 3, 4, 5, 6, 7, 8, 9, 10, 11, 12, 13, 14, 15, 16, 17, 18, 0] rfl
  replace hD := hD.sub (ws' := wRo ad ca P S G ao co vo) [1, 2, 3, 4, 5, 6, 7, 8, 9, 10, 11, 12, 13, 14, 15, 16, 17, 18, 0] (by decide) rfl
  refine lv_astore_n (lv' := [(3, .ref v), (0, .ref (ad 0)), (1, .int z1), (2, .ref ao)]) hx hb d_L_share_15 rfl hl (by decide) rfl (fun ls hl => ?_)
  refine nr_iconst hx hb 2 d_L_share_16 (by decide) ?_
  exact W.iret (v := (nI 2)) hx hb hr (fun t ht hW => ⟨⟨_, (), rfl, ⟨rfl, trivial⟩, by rw [ht]; exact hP, hD⟩, hS.F ht⟩) hS.2.2 d_L_share_17
set_option maxHeartbeats 4000000 in
set_option maxRecDepth 100000 in
theorem o_L_count (l : Launch) (D : va_G) (ad : Nat → Nat) (ca : Nat → ClassId) (P S G : Nat → Nat → Nat) (ao : Nat) (co : ClassId) (vo : Nat → Int64) (z1 : Int32) {rmc : Room} {S1 : Type} {post : Int32 → S1 → Prop} {P1 Sx G1 : S1 → Nat → Nat → Nat} (hrm : rmc.cells = 0 ∧ rmc.slots = 0 ∧ rmc.frames ≤ 10 ∧ rmc.locals ≤ 380) (hM : ∀ sz, Met l y_R_count w_R_count rmc (rw_P [.ref (ad 0), .int z1] D (wR ad ca P S G) (tR ca) sz) (rw_Qi post D (wR ad ca P S G) (fun u => wR ad ca (P1 u) (Sx u) (G1 u)) sz) 0 0 (va_A (wR ad ca P S G) sz)) (sz : Nat) : Met l y_L_count w_L_count { frames := 11, cells := 0, slots := 0, locals := 410 } (lw_PW [.ref (ad 0), .int z1, .ref ao] D (wRo ad ca P S G ao co vo) (tRo ca co) sz) (rw_Qi (fun (r : Int32) (u : Int32 × S1) => r = nI 0 ∧ post u.1 u.2) D (wRo ad ca P S G ao co vo) (fun u => wRo ad ca (P1 u.2) (Sx u.2) (G1 u.2) ao co (vp_updL vo 0 u.1.toInt64)) sz) 0 0 (va_A (wRo ad ca P S G ao co vo) sz) := by
  refine va_MetW (cc := b_L_count) (maxL := 4) (ret := (some .int)) (by decide) rfl ?_
  intro p e s m args below meth c s₁ B hml hv
  obtain ⟨rfl, hsz, hN, hX, hCX, hP, hK, hD0⟩ := hv
  have hx := B.exec
  have hb := B.bytes
  have hr := B.returns
  have hts := atoms_spec (ws := w_L_count) B.pre
  have htb : ∀ w ∈ TBG, w.before [.ref (ad 0), .int z1, .ref ao].toArray s = true := fun w h => hts w (List.mem_cons_of_mem _ h)
  have hown : s.vm.findClass R_L = some m.cls := findClass_of_methodNamed B.named
  have hlocks := B.notSynchronized
  subst hsz
  have hD := hD0.self (sz := s.heap.size)
  have hPs := hP
  unfold rw_Qi
  generalize hAe : va_A (wRo ad ca P S G ao co vo) s.heap.size = A at hD ⊢
  have hA : ∀ q : Nat, s.heap.size ≤ q → A q := fun q h => by rw [← hAe]; exact Or.inr h
  have hS : va_S A s.heap s.heap [] := va_S.rf
  have hl := lv_entry ([.ref (ad 0), .int z1, .ref ao]) (n := 4) (Nat.le_of_ble_eq_true rfl)
  rw [lg_entry_eq]
  generalize (lg_sl ([.ref (ad 0), .int z1, .ref ao]) ++ List.replicate (4 - (lg_sl ([.ref (ad 0), .int z1, .ref ao])).length) Slot.unset).toArray = ls at hl ⊢
  have hl : lv_has ls 4 [(0, .ref (ad 0)), (1, .int z1), (2, .ref ao)] := hl
  refine nr_start hP hS (fun H locs hP hS => ?_)
  refine lv_aload_n hx hb d_L_count_0 rfl (lv_at hl 2 rfl) ?_
  refine nr_iconst hx hb 0 d_L_count_1 (by decide) ?_
  refine lv_aload_n hx hb d_L_count_2 rfl (lv_at hl 0 rfl) ?_
  refine lv_iload_n hx hb d_L_count_3 rfl (lv_at hl 1 rfl) ?_
  refine nr_callwi (wr := [(ao, .inl (co, 1, .inr (.inl vo)))]) (va_runV (As := [.int z1]) (rest := [.int (nI 0), .ref ao]) ⟨hx, hb, hml, hown, hts⟩ (hM H.size) ⟨callB_of 1 hts (gTB q_R_count) rfl hrm.1 hrm.2.1 (htb _ q1) (htb _ q569) hd_R_count ⟨by show rmc.frames + 1 ≤ 11; have := hrm.2.2.1; omega, by show 8 + (2 + 11) + rmc.locals ≤ 410; have := hrm.2.2.2; omega⟩, (htb _ q570), (htb _ q571)⟩ ⟨rw_blind, va_recv (hK.sub (tys' := []) [] rfl) hP (ci := 2) (q0 := 15) rfl rfl, rw_pre hN (hP.sub (ws' := wR ad ca P S G) [0, 1, 2, 3, 4, 5, 6, 7, 8, 9, 10, 11, 12, 13, 14, 15, 16, 17] rfl) (hK.sub (tys' := tR ca) [0, 1, 2, 3, 4, 5, 6, 7, 8, 9, 10, 11, 12, 13, 14] rfl) (hD.sub (ws' := wR ad ca P S G) [0, 1, 2, 3, 4, 5, 6, 7, 8, 9, 10, 11, 12, 13, 14, 15, 16, 17] (by decide) rfl)⟩ rfl rfl hl.1 rfl (lv_room (Nat.le_of_ble_eq_true rfl)) d_L_count_4 ⟨Nat.le_of_ble_eq_true rfl, Nat.le_of_ble_eq_true rfl⟩) hP hD hS hA [0, 1, 2, 3, 4, 5, 6, 7, 8, 9, 10, 11, 12, 13, 14, 15, 16, 17] [18] rfl rfl (by decide) (by decide) (fun r u H locs hu hP hD hS => ?_)
  replace hP := hP.sub (ws' := wRo ad ca (P1 u) (Sx u) (G1 u) ao co vo) [1, 2, 3, 4, 5, 6, 7, 8, 9, 10, 11, 12, 13, 14, 15, 16, 17, 18, 0] rfl
  replace hD := hD.sub (ws' := wRo ad ca (P1 u) (Sx u) (G1 u) ao co vo) [1, 2, 3, 4, 5, 6, 7, 8, 9, 10, 11, 12, 13, 14, 15, 16, 17, 18, 0] (by decide) rfl
  refine lv_i2l (v := r.toInt64) hx hb d_L_count_7 rfl ?_
  refine va_last hx hb hK hP hD hS 18 15 rfl rfl (nI_in (by decide) (by decide)) d_L_count_8 (fun H locs hP hD hS => ?_)
  replace hP : va_P D cls (wRo ad ca (P1 u) (Sx u) (G1 u) ao co (vp_updL vo 0 r.toInt64)) H := hP
  replace hD : va_D A (wRo ad ca (P1 u) (Sx u) (G1 u) ao co (vp_updL vo 0 r.toInt64)) := hD
  refine lv_goto (tgt := 15) hx hb d_L_count_9 (by decide) ?_
  refine nr_iconst hx hb 0 d_L_count_15 (by decide) ?_
  exact W.iret (v := (nI 0)) hx hb hr (fun t ht hW => ⟨⟨_, (r, u), rfl, ⟨rfl, hu⟩, by rw [ht]; exact hP, hD⟩, hS.F ht⟩) hS.2.2 d_L_count_16
set_option maxHeartbeats 4000000 in
set_option maxRecDepth 100000 in
theorem e_L_count_1 (l : Launch) (D : va_G) (ad : Nat → Nat) (ca : Nat → ClassId) (P S G : Nat → Nat → Nat) (ao : Nat) (co : ClassId) (vo : Nat → Int64) (z1 : Int32) {rmc : Room} (hrm : rmc.cells = 1 ∧ rmc.slots = 6 ∧ rmc.frames ≤ 10 ∧ rmc.locals ≤ 380) (hM : ∀ sz, MetT l y_R_count w_R_count rmc (tw_P [.ref (ad 0), .int z1] D (wR ad ca P S G) (tR ca) sz) (tqw "java/lang/IllegalArgumentException" D (wR ad ca P S G)) 1 6 (va_A (wR ad ca P S G) sz)) (sz : Nat) : Met l y_L_count w_L_count { frames := 11, cells := 1, slots := 6, locals := 410 } (lw_PW [.ref (ad 0), .int z1, .ref ao] D (wRo ad ca P S G ao co vo) (tRo ca co) sz) (rw_Qi (fun (r : Int32) (u : Unit) => r = nI 1 ∧ True) D (wRo ad ca P S G ao co vo) (fun _ => wRo ad ca P S G ao co vo) sz) 1 6 (va_A (wRo ad ca P S G ao co vo) sz) := by
  refine va_MetW (cc := b_L_count) (maxL := 4) (ret := (some .int)) (by decide) rfl ?_
  intro p e s m args below meth c s₁ B hml hv
  obtain ⟨rfl, hsz, hN, hX, hCX, hP, hK, hD0⟩ := hv
  have hx := B.exec
  have hb := B.bytes
  have hr := B.returns
  have hts := atoms_spec (ws := w_L_count) B.pre
  have htb : ∀ w ∈ TBG, w.before [.ref (ad 0), .int z1, .ref ao].toArray s = true := fun w h => hts w (List.mem_cons_of_mem _ h)
  have hown : s.vm.findClass R_L = some m.cls := findClass_of_methodNamed B.named
  have hlocks := B.notSynchronized
  subst hsz
  have hD := hD0.self (sz := s.heap.size)
  have hPs := hP
  unfold rw_Qi
  generalize hAe : va_A (wRo ad ca P S G ao co vo) s.heap.size = A at hD ⊢
  have hA : ∀ q : Nat, s.heap.size ≤ q → A q := fun q h => by rw [← hAe]; exact Or.inr h
  have hS : va_S A s.heap s.heap [] := va_S.rf
  have hl := lv_entry ([.ref (ad 0), .int z1, .ref ao]) (n := 4) (Nat.le_of_ble_eq_true rfl)
  rw [lg_entry_eq]
  generalize (lg_sl ([.ref (ad 0), .int z1, .ref ao]) ++ List.replicate (4 - (lg_sl ([.ref (ad 0), .int z1, .ref ao])).length) Slot.unset).toArray = ls at hl ⊢
  have hl : lv_has ls 4 [(0, .ref (ad 0)), (1, .int z1), (2, .ref ao)] := hl
  refine nr_start hP hS (fun H locs hP hS => ?_)
  refine lv_aload_n hx hb d_L_count_0 rfl (lv_at hl 2 rfl) ?_
  refine nr_iconst hx hb 0 d_L_count_1 (by decide) ?_
  refine lv_aload_n hx hb d_L_count_2 rfl (lv_at hl 0 rfl) ?_
  refine lv_iload_n hx hb d_L_count_3 rfl (lv_at hl 1 rfl) ?_
  refine nr_caught (wr := [(ao, .inl (co, 1, .inr (.inl vo)))]) (y := y_L_count) (nr_runVT (As := [.int z1]) (rest := [.int (nI 0), .ref ao]) ⟨hx, hb, hml, hown, hts⟩ (hM H.size).more ⟨callB_of 1 hts (gTB q_R_count) rfl hrm.1 hrm.2.1 (htb _ q1) (htb _ q569) hd_R_count ⟨by show rmc.frames + 1 ≤ 11; have := hrm.2.2.1; omega, by show 8 + (2 + 11) + rmc.locals ≤ 410; have := hrm.2.2.2; omega⟩, (htb _ q570), (htb _ q571)⟩ ⟨tw_blind, va_recv (hK.sub (tys' := []) [] rfl) hP (ci := 2) (q0 := 15) rfl rfl, fun U hU hW => ⟨rfl, by rw [hU], hN.warm hW, tx_keep hX hPs (by rw [hAe]; exact hS) U hU hW, by rw [hU]; exact (hP.sub (ws' := wR ad ca P S G) [0, 1, 2, 3, 4, 5, 6, 7, 8, 9, 10, 11, 12, 13, 14, 15, 16, 17] rfl), va_K.moved hW.alike (hK.sub (tys' := tR ca) [0, 1, 2, 3, 4, 5, 6, 7, 8, 9, 10, 11, 12, 13, 14] rfl), (hD.sub (ws' := wR ad ca P S G) [0, 1, 2, 3, 4, 5, 6, 7, 8, 9, 10, 11, 12, 13, 14, 15, 16, 17] (by decide) rfl).weaken (fun _ _ _ _ => trivial)⟩⟩ rfl rfl hl.1 rfl (lv_room (Nat.le_of_ble_eq_true rfl)) d_L_count_4 ⟨Nat.le_of_ble_eq_true rfl, Nat.le_of_ble_eq_true rfl⟩) (hts _ List.mem_cons_self) B.named hown hCX (by decide) 0 rfl (by decide) (by decide) (by decide) (htb _ q359) (hX.words _ _ x9) (fun _ h => absurd h List.not_mem_nil) hP hD hS hA (hD.sub (ws' := wR ad ca P S G) [0, 1, 2, 3, 4, 5, 6, 7, 8, 9, 10, 11, 12, 13, 14, 15, 16, 17] (by decide) rfl) [0, 1, 2, 3, 4, 5, 6, 7, 8, 9, 10, 11, 12, 13, 14, 15, 16, 17] [18] rfl rfl (by decide) (by decide) (fun v H locs hP hD hS => ?_)
  replace hP := hP.sub (ws' := wRo ad ca P S G ao co vo) [1, 2, 3, 4, 5, 6, 7, 8, 9, 10, 11, 12, 13, 14, 15, 16, 17, 18, 0] rfl
  replace hD := hD.sub (ws' := wRo ad ca P S G ao co vo) [1, 2, 3, 4, 5, 6, 7, 8, 9, 10, 11, 12, 13, 14, 15, 16, 17, 18, 0] (by decide) rfl
  refine lv_astore_n (lv' := [(3, .ref v), (0, .ref (ad 0)), (1, .int z1), (2, .ref ao)]) hx hb d_L_count_12 rfl hl (by decide) rfl (fun ls hl => ?_)
  refine nr_iconst hx hb 1 d_L_count_13 (by decide) ?_
  exact W.iret (v := (nI 1)) hx hb hr (fun t ht hW => ⟨⟨_, (), rfl, ⟨rfl, trivial⟩, by rw [ht]; exact hP, hD⟩, hS.F ht⟩) hS.2.2 d_L_count_14

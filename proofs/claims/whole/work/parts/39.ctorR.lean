section NCT
variable {p : Program} {l : Launch} {e : Env} {R : Room} {s : State} {m : MethodId} {args : Array Value} {below : List Frame} {meth : Method} {c : Code} {H : Heap} {locs : List Loc} {cells slots : Nat} {Q : State → Prop} {pc : Nat} {ls : Array Slot} {rest st0 : List Value}
variable {D : va_G} {ws wc wr : va_W} {A : Nat → Prop} {H0 : Heap} {a : Array Value} {mc ms : Nat} {tys : List (ClassId × FieldType)}
/-- a constructor: its world and its arrays' classes come new -/
theorem nr_ctor {S : Type} {post : S → Prop} {w1 : S → va_W} {t1 : S → List (ClassId × FieldType)} (hr : va_Run p l e R s m args below meth c H locs cells slots mc ms (F0 m pc ls st0) rest (va_Qv post (fun u t => va_P D cls (w1 u) t.heap ∧ va_K D cls (t1 u) t ∧ va_D (va_A wc H.size) (w1 u)) (va_A wc H.size) a) (va_A wc H.size)) (hK : va_K D cls tys s) (hP : va_P D cls ws H) (hD : va_D A ws) (hS : va_S A H0 H locs) (hA : ∀ q, H0.size ≤ q → A q) (isC isR : List Nat) (hC : isC.map (fun i => ws[i]?) = wc.map some) (hR : isR.map (fun i => ws[i]?) = wr.map some) (hn : va_nd isR = true) (hdis : ∀ i ∈ isR, i ∉ isC)
    (kk : ∀ (u : S) (H1 : Heap) (locs1 : List Loc), post u → va_K D cls (tys ++ t1 u) s → va_P D cls (wr ++ w1 u) H1 → va_D A (wr ++ w1 u) → va_S A H0 H1 locs1 → W p l e R s m args below meth c H1 locs1 (cells + mc) (slots + ms) Q (F0 m (pc + 3) ls rest)) : W p l e R s m args below meth c H locs cells slots Q (F0 m pc ls st0) := by
  have hF := va_free (wc := wc) hD hS hA isC hC
  refine va_callv hr hS (fun q _ h => hF q h) hF (fun u t H1 locs1 ht hvm hp hB hz hk hS1 => ?_)
  obtain ⟨hP1, hK1, hD1⟩ := hB
  rw [ht] at hP1
  obtain ⟨hP2, hD2⟩ := va_join hP hD isC isR hC hR hn hdis hk hF hP1 hD1
  exact kk u H1 locs1 hp (hK.app (va_K.moved hvm.symm hK1)) hP2 hD2 hS1
end NCT
set_option maxHeartbeats 4000000 in
set_option maxRecDepth 100000 in
theorem c_R_init (l : Launch) (D : va_G) (h0 : Nat) (sz : Nat) : Met l y_R_init w_R_init { frames := 2, cells := 17, slots := 809, locals := 60 } (rw_P [.ref h0] D ([(h0, .inr (2, [.null, .null, .null, .null, .int (nI 0), .int (nI 0)]))]) [] sz) (va_Qv (fun u : (Nat → Nat) × (Nat → ClassId) => u.1 0 = h0) (fun u t => va_P D cls (wR u.1 u.2 P00 S00 Z00) t.heap ∧ va_K D cls (tR u.2) t ∧ va_D (va_A ([(h0, .inr (2, [.null, .null, .null, .null, .int (nI 0), .int (nI 0)]))]) sz) (wR u.1 u.2 P00 S00 Z00)) (va_A ([(h0, .inr (2, [.null, .null, .null, .null, .int (nI 0), .int (nI 0)]))]) sz)) 17 809 (va_A ([(h0, .inr (2, [.null, .null, .null, .null, .int (nI 0), .int (nI 0)]))]) sz) := by
  refine Met.ofW (cc := b_R_init) (maxL := 1) (ret := none) (by decide) rfl ?_
  intro p e s m args below meth c s₁ B hml hv
  obtain ⟨rfl, hsz, hN, hP, hK, hD0⟩ := hv
  have hx := B.exec
  have hb := B.bytes
  have hr := B.returns
  have hts := atoms_spec (ws := w_R_init) B.pre
  have htb : ∀ w ∈ TBG, w.before [.ref h0].toArray s = true := fun w h => hts w (List.mem_cons_of_mem _ h)
  have hown : s.vm.findClass R_R = some m.cls := findClass_of_methodNamed B.named
  have hlocks := B.notSynchronized
  have hin : meth.name = "<init>" := (name_of_methodNamed B.named B.method).1
  subst hsz
  have hD := hD0.self (sz := s.heap.size)
  generalize hAe : va_A ([(h0, .inr (2, [.null, .null, .null, .null, .int (nI 0), .int (nI 0)]))]) s.heap.size = A at hD ⊢
  have hA : ∀ q : Nat, s.heap.size ≤ q → A q := fun q h => by rw [← hAe]; exact Or.inr h
  have hS : va_S A s.heap s.heap [] := va_S.rf
  have hl := lv_entry ([.ref h0]) (n := 1) (Nat.le_of_ble_eq_true rfl)
  rw [lg_entry_eq]
  generalize (lg_sl ([.ref h0]) ++ List.replicate (1 - (lg_sl ([.ref h0])).length) Slot.unset).toArray = ls at hl ⊢
  have hl : lv_has ls 1 [(0, .ref h0)] := hl
  refine nr_start hP hS (fun H locs hP hS => ?_)
  refine lv_aload_n hx hb d_R_init_0 rfl (lv_at hl 0 rfl) ?_
  refine W.objInit hx hb hown (htb _ q19) (htb _ q20) (htb _ (tbm 21 rfl rfl)) rfl (by rw [hml]; exact hl.1) rfl d_R_init_1 (Nat.le_of_ble_eq_true rfl) (Nat.le_of_ble_eq_true rfl) ?_
  refine W.eq (g2 := F0 m 4 ls []) rfl ?_
  refine lv_aload_n hx hb d_R_init_4 rfl (lv_at hl 0 rfl) ?_
  refine va_new (ci := 0) (fs := [.int (nI 0), .int (nI 0), .int (nI 0), .int (nI 0), .int (nI 0), .int (nI 0), .null, .null, .null, .null, .null, .null]) (C := R_P) (T := F_P) (N := 12) hx hb htb u_P t_P t_P_ok hown (htb _ q22) (htb _ q23) (htb _ q2) hK hP hD hS hA rfl (fun j hj => by rcases (show j = 0 ∨ j = 1 ∨ j = 2 ∨ j = 3 ∨ j = 4 ∨ j = 5 ∨ j = 6 ∨ j = 7 ∨ j = 8 ∨ j = 9 ∨ j = 10 ∨ j = 11 by omega) with rfl | rfl | rfl | rfl | rfl | rfl | rfl | rfl | rfl | rfl | rfl | rfl <;> rfl) (Nat.le_of_ble_eq_true rfl) (Nat.le_of_ble_eq_true rfl) d_R_init_5 (fun qp H hP hD hS => ?_)
  replace hP : va_P D cls ([(h0, .inr (2, [.null, .null, .null, .null, .int (nI 0), .int (nI 0)])), (qp, .inr (0, [.int (nI 0), .int (nI 0), .int (nI 0), .int (nI 0), .int (nI 0), .int (nI 0), .null, .null, .null, .null, .null, .null]))]) _ := hP
  replace hD : va_D A ([(h0, .inr (2, [.null, .null, .null, .null, .int (nI 0), .int (nI 0)])), (qp, .inr (0, [.int (nI 0), .int (nI 0), .int (nI 0), .int (nI 0), .int (nI 0), .int (nI 0), .null, .null, .null, .null, .null, .null]))]) := hD
  refine lv_dup hx hb d_R_init_8 rfl ?_
  refine nr_ctor (wr := [(h0, .inr (2, [.null, .null, .null, .null, .int (nI 0), .int (nI 0)]))]) (va_runIN (As := []) (rest := [.ref qp, .ref h0]) ⟨hx, hb, hml, hown, hts⟩ (c_P_init l D qp H.size) ⟨va_cnB 0 hts (gTB q_P_init) rfl rfl rfl (hN.nw q24 rfl) (htb _ q2) hd_P_init ⟨Nat.le_of_ble_eq_true rfl, Nat.le_of_ble_eq_true rfl⟩, rfl, (htb _ q25)⟩ ⟨rw_blind, rw_pre hN (hP.sub (ws' := [(qp, .inr (0, [.int (nI 0), .int (nI 0), .int (nI 0), .int (nI 0), .int (nI 0), .int (nI 0), .null, .null, .null, .null, .null, .null]))]) [1] rfl) (hK.sub (tys' := []) [] rfl) (hD.sub (ws' := [(qp, .inr (0, [.int (nI 0), .int (nI 0), .int (nI 0), .int (nI 0), .int (nI 0), .int (nI 0), .null, .null, .null, .null, .null, .null]))]) [1] (by decide) rfl)⟩ rfl rfl hl.1 rfl (lv_room (Nat.le_of_ble_eq_true rfl)) d_R_init_9 ⟨Nat.le_of_ble_eq_true rfl, Nat.le_of_ble_eq_true rfl⟩) hK hP hD hS hA [1] [0] rfl rfl (by decide) (by decide) (fun u H_u locs_u hu_u hK_u hP_u hD_u hS_u => ?_)
  clear hK hP hD hS
  subst hu_u
  have hK := hK_u
  have hP := hP_u
  have hD := hD_u
  have hS := hS_u
  clear hK_u hP_u hD_u hS_u
  replace hP : va_P D cls ((h0, .inr (2, [.null, .null, .null, .null, .int (nI 0), .int (nI 0)])) :: wP u.1 u.2 P00) _ := hP
  replace hD : va_D A ((h0, .inr (2, [.null, .null, .null, .null, .int (nI 0), .int (nI 0)])) :: wP u.1 u.2 P00) := hD
  refine va_putF (D := D) (ci := 2) (v := .ref (u.1 1)) (ty := .object "RosterSolve$Plan") (C := R_R) (T := F_R) (N := 6) hx hb htb u_R t_R t_R_ok n_R hown hK hP hD hS 0 rfl rfl 0 (by decide) (htb _ q134) (fun _ h9 => h9) rfl hin rfl (by decide +kernel) rfl rfl (Nat.le_of_ble_eq_true rfl) d_R_init_12 (fun H locs hP hD hS => ?_)
  replace hP : va_P D cls ((h0, .inr (2, [.ref (u.1 1), .null, .null, .null, .int (nI 0), .int (nI 0)])) :: wP u.1 u.2 P00) _ := hP
  replace hD : va_D A ((h0, .inr (2, [.ref (u.1 1), .null, .null, .null, .int (nI 0), .int (nI 0)])) :: wP u.1 u.2 P00) := hD
  refine lv_aload_n hx hb d_R_init_15 rfl (lv_at hl 0 rfl) ?_
  refine va_new (ci := 1) (fs := [.null, .null, .null, .null, .null, .null, .null, .null, .int (nI 0), .int (nI 0), .int (nI 0), .int (nI 0), .int (nI 0), .int (nI 0), .int (nI 0)]) (C := R_S) (T := F_S) (N := 15) hx hb htb u_S t_S t_S_ok hown (htb _ q77) (htb _ q78) (htb _ q3) hK hP hD hS hA rfl (fun j hj => by rcases (show j = 0 ∨ j = 1 ∨ j = 2 ∨ j = 3 ∨ j = 4 ∨ j = 5 ∨ j = 6 ∨ j = 7 ∨ j = 8 ∨ j = 9 ∨ j = 10 ∨ j = 11 ∨ j = 12 ∨ j = 13 ∨ j = 14 by omega) with rfl | rfl | rfl | rfl | rfl | rfl | rfl | rfl | rfl | rfl | rfl | rfl | rfl | rfl | rfl <;> rfl) (Nat.le_of_ble_eq_true rfl) (Nat.le_of_ble_eq_true rfl) d_R_init_16 (fun qs H hP hD hS => ?_)
  replace hP : va_P D cls (((h0, .inr (2, [.ref (u.1 1), .null, .null, .null, .int (nI 0), .int (nI 0)])) :: wP u.1 u.2 P00) ++ [(qs, .inr (1, [.null, .null, .null, .null, .null, .null, .null, .null, .int (nI 0), .int (nI 0), .int (nI 0), .int (nI 0), .int (nI 0), .int (nI 0), .int (nI 0)]))]) _ := hP
  replace hD : va_D A (((h0, .inr (2, [.ref (u.1 1), .null, .null, .null, .int (nI 0), .int (nI 0)])) :: wP u.1 u.2 P00) ++ [(qs, .inr (1, [.null, .null, .null, .null, .null, .null, .null, .null, .int (nI 0), .int (nI 0), .int (nI 0), .int (nI 0), .int (nI 0), .int (nI 0), .int (nI 0)]))]) := hD
  refine lv_dup hx hb d_R_init_19 rfl ?_
  refine lv_aload_n hx hb d_R_init_20 rfl (lv_at hl 0 rfl) ?_
  refine va_get (D := D) (ci := 2) (v := .ref (u.1 1)) (C := R_R) (T := F_R) (N := 6) hx hb htb u_R hown hK hP 0 rfl rfl 0 (by decide) (htb _ q134) (fun _ h9 => h9) rfl d_R_init_21 ?_
  refine nr_ctor (wr := ((h0, .inr (2, [.ref (u.1 1), .null, .null, .null, .int (nI 0), .int (nI 0)])) :: wP u.1 u.2 P00)) (va_runIN (As := [.ref (u.1 1)]) (rest := [.ref qs, .ref h0]) ⟨hx, hb, hml, hown, hts⟩ (c_S_init l D qs (u.1 1) H.size) ⟨va_cnB 1 hts (gTB q_S_init) rfl rfl rfl (hN.nw q79 rfl) (htb _ q3) hd_S_init ⟨Nat.le_of_ble_eq_true rfl, Nat.le_of_ble_eq_true rfl⟩, rfl, (htb _ q80)⟩ ⟨rw_blind, rw_pre hN (hP.sub (ws' := [(qs, .inr (1, [.null, .null, .null, .null, .null, .null, .null, .null, .int (nI 0), .int (nI 0), .int (nI 0), .int (nI 0), .int (nI 0), .int (nI 0), .int (nI 0)]))]) [8] rfl) (hK.sub (tys' := []) [] rfl) (hD.sub (ws' := [(qs, .inr (1, [.null, .null, .null, .null, .null, .null, .null, .null, .int (nI 0), .int (nI 0), .int (nI 0), .int (nI 0), .int (nI 0), .int (nI 0), .int (nI 0)]))]) [8] (by decide) rfl)⟩ rfl rfl hl.1 rfl (lv_room (Nat.le_of_ble_eq_true rfl)) d_R_init_24 ⟨Nat.le_of_ble_eq_true rfl, Nat.le_of_ble_eq_true rfl⟩) hK hP hD hS hA [8] [0, 1, 2, 3, 4, 5, 6, 7] rfl rfl (by decide) (by decide) (fun v H_v locs_v hu_v hK_v hP_v hD_v hS_v => ?_)
  obtain ⟨e1, e2⟩ := hu_v
  clear hK hP hD hS
  subst e2
  have hK := hK_v
  have hP := hP_v
  have hD := hD_v
  have hS := hS_v
  clear hK_v hP_v hD_v hS_v
  replace hP : va_P D cls (((h0, .inr (2, [.ref (u.1 1), .null, .null, .null, .int (nI 0), .int (nI 0)])) :: wP u.1 u.2 P00) ++ wS v.1 v.2 S00) _ := hP
  replace hD : va_D A (((h0, .inr (2, [.ref (u.1 1), .null, .null, .null, .int (nI 0), .int (nI 0)])) :: wP u.1 u.2 P00) ++ wS v.1 v.2 S00) := hD
  refine va_putF (D := D) (ci := 2) (v := .ref (v.1 2)) (ty := .object "RosterSolve$Search") (C := R_R) (T := F_R) (N := 6) hx hb htb u_R t_R t_R_ok n_R hown hK hP hD hS 0 rfl rfl 1 (by decide) (htb _ q135) (fun _ h9 => h9) rfl hin rfl (by decide +kernel) rfl rfl (Nat.le_of_ble_eq_true rfl) d_R_init_27 (fun H locs hP hD hS => ?_)
  replace hP : va_P D cls (((h0, .inr (2, [.ref (u.1 1), .ref (v.1 2), .null, .null, .int (nI 0), .int (nI 0)])) :: wP u.1 u.2 P00) ++ wS v.1 v.2 S00) _ := hP
  replace hD : va_D A (((h0, .inr (2, [.ref (u.1 1), .ref (v.1 2), .null, .null, .int (nI 0), .int (nI 0)])) :: wP u.1 u.2 P00) ++ wS v.1 v.2 S00) := hD
  refine lv_aload_n hx hb d_R_init_30 rfl (lv_at hl 0 rfl) ?_
  refine nr_bipush hx hb 42 d_R_init_31 (by decide) ?_
  refine va_newa (atype := .int) (ty := .int) (n := nI 42) (N' := 42) (a0 := (42, .inl (fun _ => nI 0))) hx hb (htb _ q75) rfl hK hP hD hS hA (fun _ => rfl) (by decide) (by decide) (by decide) (Nat.le_of_ble_eq_true rfl) (Nat.le_of_ble_eq_true rfl) d_R_init_33 (fun q_0 cA_0 H hK hP hD hS => ?_)
  replace hP : va_P D cls ((((h0, .inr (2, [.ref (u.1 1), .ref (v.1 2), .null, .null, .int (nI 0), .int (nI 0)])) :: wP u.1 u.2 P00) ++ wS v.1 v.2 S00) ++ [(q_0, .inl (cA_0, 42, .inl (fun _ => nI 0)))]) _ := hP
  replace hD : va_D A ((((h0, .inr (2, [.ref (u.1 1), .ref (v.1 2), .null, .null, .int (nI 0), .int (nI 0)])) :: wP u.1 u.2 P00) ++ wS v.1 v.2 S00) ++ [(q_0, .inl (cA_0, 42, .inl (fun _ => nI 0)))]) := hD
  refine va_putF (D := D) (ci := 2) (v := .ref q_0) (ty := .array .int) (C := R_R) (T := F_R) (N := 6) hx hb htb u_R t_R t_R_ok n_R hown hK hP hD hS 0 rfl rfl 2 (by decide) (htb _ q136) (fun _ h9 => h9) rfl hin rfl (by decide +kernel) rfl rfl (Nat.le_of_ble_eq_true rfl) d_R_init_35 (fun H locs hP hD hS => ?_)
  replace hP : va_P D cls ((((h0, .inr (2, [.ref (u.1 1), .ref (v.1 2), .ref q_0, .null, .int (nI 0), .int (nI 0)])) :: wP u.1 u.2 P00) ++ wS v.1 v.2 S00) ++ [(q_0, .inl (cA_0, 42, .inl (fun _ => nI 0)))]) _ := hP
  replace hD : va_D A ((((h0, .inr (2, [.ref (u.1 1), .ref (v.1 2), .ref q_0, .null, .int (nI 0), .int (nI 0)])) :: wP u.1 u.2 P00) ++ wS v.1 v.2 S00) ++ [(q_0, .inl (cA_0, 42, .inl (fun _ => nI 0)))]) := hD
  refine lv_aload_n hx hb d_R_init_38 rfl (lv_at hl 0 rfl) ?_
  refine nr_bipush hx hb 42 d_R_init_39 (by decide) ?_
  refine va_newa (atype := .int) (ty := .int) (n := nI 42) (N' := 42) (a0 := (42, .inl (fun _ => nI 0))) hx hb (htb _ q75) rfl hK hP hD hS hA (fun _ => rfl) (by decide) (by decide) (by decide) (Nat.le_of_ble_eq_true rfl) (Nat.le_of_ble_eq_true rfl) d_R_init_41 (fun q_1 cA_1 H hK hP hD hS => ?_)
  replace hP : va_P D cls (((((h0, .inr (2, [.ref (u.1 1), .ref (v.1 2), .ref q_0, .null, .int (nI 0), .int (nI 0)])) :: wP u.1 u.2 P00) ++ wS v.1 v.2 S00) ++ [(q_0, .inl (cA_0, 42, .inl (fun _ => nI 0)))]) ++ [(q_1, .inl (cA_1, 42, .inl (fun _ => nI 0)))]) _ := hP
  replace hD : va_D A (((((h0, .inr (2, [.ref (u.1 1), .ref (v.1 2), .ref q_0, .null, .int (nI 0), .int (nI 0)])) :: wP u.1 u.2 P00) ++ wS v.1 v.2 S00) ++ [(q_0, .inl (cA_0, 42, .inl (fun _ => nI 0)))]) ++ [(q_1, .inl (cA_1, 42, .inl (fun _ => nI 0)))]) := hD
  refine va_putF (D := D) (ci := 2) (v := .ref q_1) (ty := .array .int) (C := R_R) (T := F_R) (N := 6) hx hb htb u_R t_R t_R_ok n_R hown hK hP hD hS 0 rfl rfl 3 (by decide) (htb _ q137) (fun _ h9 => h9) rfl hin rfl (by decide +kernel) rfl rfl (Nat.le_of_ble_eq_true rfl) d_R_init_43 (fun H locs hP hD hS => ?_)
  replace hP : va_P D cls (((((h0, .inr (2, [.ref (u.1 1), .ref (v.1 2), .ref q_0, .ref q_1, .int (nI 0), .int (nI 0)])) :: wP u.1 u.2 P00) ++ wS v.1 v.2 S00) ++ [(q_0, .inl (cA_0, 42, .inl (fun _ => nI 0)))]) ++ [(q_1, .inl (cA_1, 42, .inl (fun _ => nI 0)))]) _ := hP
  replace hD : va_D A (((((h0, .inr (2, [.ref (u.1 1), .ref (v.1 2), .ref q_0, .ref q_1, .int (nI 0), .int (nI 0)])) :: wP u.1 u.2 P00) ++ wS v.1 v.2 S00) ++ [(q_0, .inl (cA_0, 42, .inl (fun _ => nI 0)))]) ++ [(q_1, .inl (cA_1, 42, .inl (fun _ => nI 0)))]) := hD
  refine lv_aload_n hx hb d_R_init_46 rfl (lv_at hl 0 rfl) ?_
  refine nr_iconst hx hb 0 d_R_init_47 (by decide) ?_
  refine va_put (D := D) (ci := 2) (v := .int (nI 0)) (ty := .int) (C := R_R) (T := F_R) (N := 6) hx hb htb u_R t_R t_R_ok n_R hown hK hP hD hS 0 rfl rfl 4 (by decide) (htb _ q138) (fun _ h9 => h9) rfl (by decide +kernel) rfl rfl (Nat.le_of_ble_eq_true rfl) d_R_init_48 (fun H locs hP hD hS => ?_)
  replace hP : va_P D cls (((((h0, .inr (2, [.ref (u.1 1), .ref (v.1 2), .ref q_0, .ref q_1, .int (nI 0), .int (nI 0)])) :: wP u.1 u.2 P00) ++ wS v.1 v.2 S00) ++ [(q_0, .inl (cA_0, 42, .inl (fun _ => nI 0)))]) ++ [(q_1, .inl (cA_1, 42, .inl (fun _ => nI 0)))]) _ := hP
  replace hD : va_D A (((((h0, .inr (2, [.ref (u.1 1), .ref (v.1 2), .ref q_0, .ref q_1, .int (nI 0), .int (nI 0)])) :: wP u.1 u.2 P00) ++ wS v.1 v.2 S00) ++ [(q_0, .inl (cA_0, 42, .inl (fun _ => nI 0)))]) ++ [(q_1, .inl (cA_1, 42, .inl (fun _ => nI 0)))]) := hD
  refine lv_aload_n hx hb d_R_init_51 rfl (lv_at hl 0 rfl) ?_
  refine nr_iconst hx hb 0 d_R_init_52 (by decide) ?_
  refine va_put (D := D) (ci := 2) (v := .int (nI 0)) (ty := .int) (C := R_R) (T := F_R) (N := 6) hx hb htb u_R t_R t_R_ok n_R hown hK hP hD hS 0 rfl rfl 5 (by decide) (htb _ q139) (fun _ h9 => h9) rfl (by decide +kernel) rfl rfl (Nat.le_of_ble_eq_true rfl) d_R_init_53 (fun H locs hP hD hS => ?_)
  replace hP : va_P D cls (((((h0, .inr (2, [.ref (u.1 1), .ref (v.1 2), .ref q_0, .ref q_1, .int (nI 0), .int (nI 0)])) :: wP u.1 u.2 P00) ++ wS v.1 v.2 S00) ++ [(q_0, .inl (cA_0, 42, .inl (fun _ => nI 0)))]) ++ [(q_1, .inl (cA_1, 42, .inl (fun _ => nI 0)))]) _ := hP
  replace hD : va_D A (((((h0, .inr (2, [.ref (u.1 1), .ref (v.1 2), .ref q_0, .ref q_1, .int (nI 0), .int (nI 0)])) :: wP u.1 u.2 P00) ++ wS v.1 v.2 S00) ++ [(q_0, .inl (cA_0, 42, .inl (fun _ => nI 0)))]) ++ [(q_1, .inl (cA_1, 42, .inl (fun _ => nI 0)))]) := hD
  simp only [wS, e1] at hP hD
  have hP9 := hP.sub (ws' := wR (fun k => ([h0, u.1 1, v.1 2, u.1 3, u.1 4, u.1 5, u.1 6, u.1 7, u.1 8, v.1 9, v.1 10, v.1 11, v.1 12, v.1 13, v.1 14, v.1 15, q_0, q_1] : List Nat).getD k 0) (fun k => ([u.2 0, u.2 1, u.2 2, u.2 3, u.2 4, u.2 5, v.2 6, v.2 7, v.2 8, v.2 9, v.2 10, v.2 11, v.2 12, cA_0, cA_1] : List ClassId).getD k 0) P00 S00 Z00) [1, 2, 3, 4, 5, 6, 7, 8, 9, 10, 11, 12, 13, 14, 15, 0, 16, 17] rfl
  have hD9 := hD.sub (ws' := wR (fun k => ([h0, u.1 1, v.1 2, u.1 3, u.1 4, u.1 5, u.1 6, u.1 7, u.1 8, v.1 9, v.1 10, v.1 11, v.1 12, v.1 13, v.1 14, v.1 15, q_0, q_1] : List Nat).getD k 0) (fun k => ([u.2 0, u.2 1, u.2 2, u.2 3, u.2 4, u.2 5, v.2 6, v.2 7, v.2 8, v.2 9, v.2 10, v.2 11, v.2 12, cA_0, cA_1] : List ClassId).getD k 0) P00 S00 Z00) [1, 2, 3, 4, 5, 6, 7, 8, 9, 10, 11, 12, 13, 14, 15, 0, 16, 17] (by decide) rfl
  have hK9 := hK.sub (tys' := tR (fun k => ([u.2 0, u.2 1, u.2 2, u.2 3, u.2 4, u.2 5, v.2 6, v.2 7, v.2 8, v.2 9, v.2 10, v.2 11, v.2 12, cA_0, cA_1] : List ClassId).getD k 0)) [0, 1, 2, 3, 4, 5, 6, 7, 8, 9, 10, 11, 12, 13, 14] rfl
  exact W.vret hx hb hr (fun t ht hW => ⟨⟨(fun k => ([h0, u.1 1, v.1 2, u.1 3, u.1 4, u.1 5, u.1 6, u.1 7, u.1 8, v.1 9, v.1 10, v.1 11, v.1 12, v.1 13, v.1 14, v.1 15, q_0, q_1] : List Nat).getD k 0, fun k => ([u.2 0, u.2 1, u.2 2, u.2 3, u.2 4, u.2 5, v.2 6, v.2 7, v.2 8, v.2 9, v.2 10, v.2 11, v.2 12, cA_0, cA_1] : List ClassId).getD k 0), rfl, rfl, by rw [ht]; exact hP9, va_K.moved hW.alike hK9, hD9⟩, hS.F ht⟩) hS.2.2 d_R_init_56

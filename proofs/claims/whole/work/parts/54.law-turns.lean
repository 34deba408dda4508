set_option maxHeartbeats 4000000 in
set_option maxRecDepth 100000 in
theorem tn_days {p : Program} {l : Launch} {e : Env} {s : State} {m : MethodId} {below : List Frame} {meth : Method} {c : Code} {b L : Nat} {xs : Nat → Int32} {H : Heap} {locs : List Loc} {cells slots : Nat} {Z : State → Prop} {ls : Array Slot} {D : va_G} {ad am : Nat → Nat} {ca cm : Nat → ClassId} {ao : Nat} {co : ClassId} {vo : Nat → Int64} {P S G X : Nat → Nat → Nat} {t : Nat} {S1 S2 : Type} {P1 Sx G1 : S1 → Nat → Nat → Nat} {P2 G2 X2 : S2 → Nat → Nat → Nat} {rmM : Room} {pw : S1 → Prop} {mc ms kx : Nat} {post2 : S2 → Prop} {z1 : Int32} (C : LC p s m meth c b L xs) (hK : LK D ca cm co s) (ht : 6 * t + 6 ≤ L) (hP : va_P D cls (wL ad ca am cm P S G P G X ao co vo) H) (hD : va_D (LA s) (wL ad ca am cm P S G P G X ao co vo)) (hS : va_S (LA s) s.heap H locs) (hl : lv_has ls 7 (lL b ad am ao t)) (hz1 : xs (6 * t + 1) = z1) (hc : cells + mc ≤ 1065 ∧ slots + ms ≤ 9580) (hw : ∀ sz, Met l y_L_days w_L_days { frames := 11, cells := mc, slots := ms, locals := 410 } (lw_PW [.ref (ad 0), .int (z1)] D (wR ad ca P S G) (tR ca) sz) (rw_Qi (fun (r : Int32) (u : S1) => r = nI kx ∧ pw u) D (wR ad ca P S G) (fun u => wR ad ca (P1 u) (Sx u) (G1 u)) sz) mc ms (va_A (wR ad ca P S G) sz)) (hrM : rmM.cells = 0 ∧ rmM.slots = 0 ∧ rmM.frames ≤ 11 ∧ rmM.locals ≤ 400) (hm : ∀ sz, Met l y_M_days w_M_days rmM (rw_P [.ref (am 0), .int (z1)] D (wM am cm P G X) (tM cm) sz) (rw_Qv post2 D (wM am cm P G X) (fun u => wM am cm (P2 u) (G2 u) (X2 u)) sz) 0 0 (va_A (wM am cm P G X) sz)) (hkx : kx ≤ 4) (hfin : ∀ u u', pw u → post2 u' → X2 u' 0 0 = kx) (kk : ∀ (u : S1) (u' : S2) (H1 : Heap) (locs1 : List Loc) (ls1 : Array Slot), pw u → post2 u' → va_P D cls (wL ad ca am cm (P1 u) (Sx u) (G1 u) (P2 u') (G2 u') (X2 u') ao co vo) H1 → va_D (LA s) (wL ad ca am cm (P1 u) (Sx u) (G1 u) (P2 u') (G2 u') (X2 u') ao co vo) → va_S (LA s) s.heap H1 locs1 → lv_has ls1 7 (lL b ad am ao t) → W p l e room_1 s m #[Value.ref b] below meth c H1 locs1 (cells + mc) (slots + ms) Z (F0 m 1072 ls1 [])) : W p l e room_1 s m #[Value.ref b] below meth c H locs cells slots Z (F0 m 128 ls []) := by
  obtain ⟨hx, hb, hr, hml, hown, hts, hN, hX, hCX, hV, hbl, hlocks, hL⟩ := C
  have htb := hts
  have hA : ∀ q : Nat, s.heap.size ≤ q → LA s q := fun q h => h
  have hbA : ¬ LA s b := Nat.not_le.mpr hbl
  obtain ⟨hK0, hKr, hKo, hK1, hKm⟩ := hK
  refine lv_aload_n hx hb d_L_law_128 rfl (lv_at hl 1 rfl) ?_
  refine lv_aload_n hx hb d_L_law_129 rfl (lv_at hl 0 rfl) ?_
  refine lv_iload hx hb d_L_law_130 (lv_at hl 4 rfl) ?_
  refine nr_iconst hx hb 1 d_L_law_132 (by decide) ?_
  refine nr_iadd hx hb d_L_law_133 ?_
  refine va_sld hx hb hV hbl hbA hS (nI_in (c := 6 * t + 1) (by omega) (by omega)) d_L_law_134 ?_
  refine nr_top (y := z1) ((congrArg xs (nI_clamp (by omega))).trans hz1) ?_
  refine nr_callwiA (va_runSW (As := [.ref (ad 0), .int (z1)]) (rest := []) ⟨hx, hb, hml, hown, hts⟩ (hw H.size) ⟨rfl, rfl⟩ ⟨Nat.le_of_ble_eq_true rfl, Nat.le_of_ble_eq_true rfl⟩ (pay_in hts (gTB0 q_L_days)) List.mem_cons_self (htb _ q236) (htb _ q237) (htb _ q0) ⟨hd_L_days.1, hd_L_days.2.1⟩ hd_L_days.2.2 ⟨lw_blind, fun U hU hW => ⟨rfl, by rw [hU], hN.warm hW, tx_law hX hS U hU hW, hCX.warm hW, by rw [hU]; exact va_P_left hP, va_K.moved hW.alike hKr, (va_D_left hD).weaken (fun _ _ _ _ => trivial)⟩⟩ rfl rfl hl.1 rfl (lv_room (Nat.le_of_ble_eq_true rfl)) d_L_law_135 hc) hP hD hS hA (fun r u H locs hu hP hD hS => ?_)
  obtain ⟨rfl, hu⟩ := hu
  refine lv_istore (lv' := [(5, .int (nI kx)), (0, .ref b), (1, .ref (ad 0)), (2, .ref (am 0)), (3, .ref ao), (4, .int (nI (6 * t)))]) hx hb d_L_law_138 hl (by decide) rfl (fun ls hl => ?_)
  refine lv_aload_n hx hb d_L_law_140 rfl (lv_at hl 3 rfl) ?_
  refine lv_aload_n hx hb d_L_law_141 rfl (lv_at hl 1 rfl) ?_
  refine lv_iload hx hb d_L_law_142 (lv_at hl 5 rfl) ?_
  refine nr_iconst hx hb 1 d_L_law_144 (by decide) ?_
  refine nr_iadd hx hb d_L_law_145 ?_
  refine va_sld hx hb hV hbl hbA hS (nI_in (c := 6 * t + 1) (by omega) (by omega)) d_L_law_146 ?_
  refine nr_top (y := z1) ((congrArg xs (nI_clamp (by omega))).trans hz1) ?_
  replace hP : va_P D cls (wRo ad ca (P1 u) (Sx u) (G1 u) ao co vo ++ wM am cm P G X) H := by rw [wL_assoc]; exact hP
  replace hD : va_D (LA s) (wRo ad ca (P1 u) (Sx u) (G1 u) ao co vo ++ wM am cm P G X) := by rw [wL_assoc]; exact hD
  refine nr_callvB (va_runV (As := [.int (z1)]) (rest := []) ⟨hx, hb, hml, hown, hts⟩ (hm H.size) ⟨callB_of 1 hts (gTB0 q_M_days) rfl hrM.1 hrM.2.1 (htb _ q4) (htb _ q662) hd_M_days ⟨by show rmM.frames + 1 ≤ 12; have := hrM.2.2.1; omega, by show 8 + (3 + 11) + rmM.locals ≤ 440; have := hrM.2.2.2; omega⟩, (htb _ q663), (htb _ q664)⟩ ⟨rw_blind, va_recv hK0 (va_P_right hP) (ci := 3) (q0 := 0) rfl rfl, rw_pre hN (va_P_right hP) hKm (va_D_right hD)⟩ rfl rfl hl.1 rfl (lv_room (Nat.le_of_ble_eq_true rfl)) d_L_law_147 ⟨hc.1, hc.2⟩) hP hD hS hA (fun u' H locs hu' hP hD hS => ?_)
  refine lv_aload_n hx hb d_L_law_150 rfl (lv_at hl 3 rfl) ?_
  refine nr_calli (va_runV (As := []) (rest := []) ⟨hx, hb, hml, hown, hts⟩ (c_M_thrown l D am cm (P2 u') (G2 u') (X2 u')) ⟨callB_of 0 hts (gTB0 q_M_thrown) rfl rfl rfl (htb _ q4) (htb _ q658) hd_M_thrown ⟨by decide, by decide⟩, (htb _ q659), (htb _ q660)⟩ ⟨ro_blind, va_recv hK0 (va_P_right hP) (ci := 3) (q0 := 0) rfl rfl, ro_pre hN (va_P_right hP) hKm⟩ rfl rfl hl.1 rfl (lv_room (Nat.le_of_ble_eq_true rfl)) d_L_law_151 ⟨hc.1, hc.2⟩) (fun r9 hr9 => ?_)
  subst hr9
  refine lv_iload hx hb d_L_law_154 (lv_at hl 0 rfl) ?_
  have hf := hfin _ _ hu hu'
  refine nr_icmp_eq (tgt := 161) hx hb (by omega) (by omega) d_L_law_156 (by decide) (fun _ => ?_) (fun h => by exfalso; omega)
  replace hP : va_P D cls (wL ad ca am cm (P1 u) (Sx u) (G1 u) (P2 u') (G2 u') (X2 u') ao co vo) H := by rw [← wL_assoc]; exact hP
  replace hD : va_D (LA s) (wL ad ca am cm (P1 u) (Sx u) (G1 u) (P2 u') (G2 u') (X2 u') ao co vo) := by rw [← wL_assoc]; exact hD
  refine lv_goto (tgt := 1072) hx hb d_L_law_161 (by decide) ?_
  exact kk u u' H locs ls hu hu' hP hD hS (lv_sub hl [1, 2, 3, 4, 5] rfl)
set_option maxHeartbeats 4000000 in
set_option maxRecDepth 100000 in
theorem tn_person {p : Program} {l : Launch} {e : Env} {s : State} {m : MethodId} {below : List Frame} {meth : Method} {c : Code} {b L : Nat} {xs : Nat → Int32} {H : Heap} {locs : List Loc} {cells slots : Nat} {Z : State → Prop} {ls : Array Slot} {D : va_G} {ad am : Nat → Nat} {ca cm : Nat → ClassId} {ao : Nat} {co : ClassId} {vo : Nat → Int64} {P S G X : Nat → Nat → Nat} {t : Nat} {S1 S2 : Type} {P1 Sx G1 : S1 → Nat → Nat → Nat} {P2 G2 X2 : S2 → Nat → Nat → Nat} {rmM : Room} {pw : S1 → Prop} {mc ms kx : Nat} {post2 : Int32 → S2 → Prop} {v1 : S1 → Nat → Int64} {z1 z2 : Int32} (C : LC p s m meth c b L xs) (hK : LK D ca cm co s) (ht : 6 * t + 6 ≤ L) (hP : va_P D cls (wL ad ca am cm P S G P G X ao co vo) H) (hD : va_D (LA s) (wL ad ca am cm P S G P G X ao co vo)) (hS : va_S (LA s) s.heap H locs) (hl : lv_has ls 7 (lL b ad am ao t)) (hz1 : xs (6 * t + 1) = z1) (hz2 : xs (6 * t + 2) = z2) (hc : cells + mc ≤ 1065 ∧ slots + ms ≤ 9580) (hw : ∀ sz, Met l y_L_person w_L_person { frames := 11, cells := mc, slots := ms, locals := 410 } (lw_PW [.ref (ad 0), .int (z1), .int (z2), .ref ao] D (wRo ad ca P S G ao co vo) (tRo ca co) sz) (rw_Qi (fun (r : Int32) (u : S1) => r = nI kx ∧ pw u) D (wRo ad ca P S G ao co vo) (fun u => wRo ad ca (P1 u) (Sx u) (G1 u) ao co (v1 u)) sz) mc ms (va_A (wRo ad ca P S G ao co vo) sz)) (hrM : rmM.cells = 0 ∧ rmM.slots = 0 ∧ rmM.frames ≤ 11 ∧ rmM.locals ≤ 400) (hm : ∀ sz, Met l y_M_person w_M_person rmM (rw_P [.ref (am 0), .int (z1), .int (z2)] D (wM am cm P G X) (tM cm) sz) (rw_Qi post2 D (wM am cm P G X) (fun u => wM am cm (P2 u) (G2 u) (X2 u)) sz) 0 0 (va_A (wM am cm P G X) sz)) (hkx : kx ≤ 4) (hfin : ∀ u r' u', pw u → post2 r' u' → X2 u' 0 0 = kx ∧ (kx = 0 → v1 u 0 = r'.toInt64)) (kk : ∀ (u : S1) (r' : Int32) (u' : S2) (H1 : Heap) (locs1 : List Loc) (ls1 : Array Slot), pw u → post2 r' u' → va_P D cls (wL ad ca am cm (P1 u) (Sx u) (G1 u) (P2 u') (G2 u') (X2 u') ao co (v1 u)) H1 → va_D (LA s) (wL ad ca am cm (P1 u) (Sx u) (G1 u) (P2 u') (G2 u') (X2 u') ao co (v1 u)) → va_S (LA s) s.heap H1 locs1 → lv_has ls1 7 (lL b ad am ao t) → W p l e room_1 s m #[Value.ref b] below meth c H1 locs1 (cells + mc) (slots + ms) Z (F0 m 1072 ls1 [])) : W p l e room_1 s m #[Value.ref b] below meth c H locs cells slots Z (F0 m 164 ls []) := by
  obtain ⟨hx, hb, hr, hml, hown, hts, hN, hX, hCX, hV, hbl, hlocks, hL⟩ := C
  have htb := hts
  have hA : ∀ q : Nat, s.heap.size ≤ q → LA s q := fun q h => h
  have hbA : ¬ LA s b := Nat.not_le.mpr hbl
  obtain ⟨hK0, hKr, hKo, hK1, hKm⟩ := hK
  refine lv_aload_n hx hb d_L_law_164 rfl (lv_at hl 1 rfl) ?_
  refine lv_aload_n hx hb d_L_law_165 rfl (lv_at hl 0 rfl) ?_
  refine lv_iload hx hb d_L_law_166 (lv_at hl 4 rfl) ?_
  refine nr_iconst hx hb 1 d_L_law_168 (by decide) ?_
  refine nr_iadd hx hb d_L_law_169 ?_
  refine va_sld hx hb hV hbl hbA hS (nI_in (c := 6 * t + 1) (by omega) (by omega)) d_L_law_170 ?_
  refine nr_top (y := z1) ((congrArg xs (nI_clamp (by omega))).trans hz1) ?_
  refine lv_aload_n hx hb d_L_law_171 rfl (lv_at hl 0 rfl) ?_
  refine lv_iload hx hb d_L_law_172 (lv_at hl 4 rfl) ?_
  refine nr_iconst hx hb 2 d_L_law_174 (by decide) ?_
  refine nr_iadd hx hb d_L_law_175 ?_
  refine va_sld hx hb hV hbl hbA hS (nI_in (c := 6 * t + 2) (by omega) (by omega)) d_L_law_176 ?_
  refine nr_top (y := z2) ((congrArg xs (nI_clamp (by omega))).trans hz2) ?_
  refine lv_aload_n hx hb d_L_law_177 rfl (lv_at hl 3 rfl) ?_
  replace hP : va_P D cls (wRo ad ca P S G ao co vo ++ wM am cm P G X) H := by rw [wL_assoc]; exact hP
  replace hD : va_D (LA s) (wRo ad ca P S G ao co vo ++ wM am cm P G X) := by rw [wL_assoc]; exact hD
  refine nr_callwiA (va_runSW (As := [.ref (ad 0), .int (z1), .int (z2), .ref ao]) (rest := []) ⟨hx, hb, hml, hown, hts⟩ (hw H.size) ⟨rfl, rfl⟩ ⟨Nat.le_of_ble_eq_true rfl, Nat.le_of_ble_eq_true rfl⟩ (pay_in hts (gTB0 q_L_person)) List.mem_cons_self (htb _ q325) (htb _ q326) (htb _ q0) ⟨hd_L_person.1, hd_L_person.2.1⟩ hd_L_person.2.2 ⟨lw_blind, fun U hU hW => ⟨rfl, by rw [hU], hN.warm hW, tx_law hX hS U hU hW, hCX.warm hW, by rw [hU]; exact va_P_left hP, va_K.moved hW.alike hKo, (va_D_left hD).weaken (fun _ _ _ _ => trivial)⟩⟩ rfl rfl hl.1 rfl (lv_room (Nat.le_of_ble_eq_true rfl)) d_L_law_178 hc) hP hD hS hA (fun r u H locs hu hP hD hS => ?_)
  obtain ⟨rfl, hu⟩ := hu
  refine lv_istore (lv' := [(5, .int (nI kx)), (0, .ref b), (1, .ref (ad 0)), (2, .ref (am 0)), (3, .ref ao), (4, .int (nI (6 * t)))]) hx hb d_L_law_181 hl (by decide) rfl (fun ls hl => ?_)
  refine lv_aload_n hx hb d_L_law_183 rfl (lv_at hl 3 rfl) ?_
  refine lv_aload_n hx hb d_L_law_184 rfl (lv_at hl 1 rfl) ?_
  refine lv_iload hx hb d_L_law_185 (lv_at hl 5 rfl) ?_
  refine nr_iconst hx hb 1 d_L_law_187 (by decide) ?_
  refine nr_iadd hx hb d_L_law_188 ?_
  refine va_sld hx hb hV hbl hbA hS (nI_in (c := 6 * t + 1) (by omega) (by omega)) d_L_law_189 ?_
  refine nr_top (y := z1) ((congrArg xs (nI_clamp (by omega))).trans hz1) ?_
  refine lv_aload_n hx hb d_L_law_190 rfl (lv_at hl 1 rfl) ?_
  refine lv_iload hx hb d_L_law_191 (lv_at hl 5 rfl) ?_
  refine nr_iconst hx hb 2 d_L_law_193 (by decide) ?_
  refine nr_iadd hx hb d_L_law_194 ?_
  refine va_sld hx hb hV hbl hbA hS (nI_in (c := 6 * t + 2) (by omega) (by omega)) d_L_law_195 ?_
  refine nr_top (y := z2) ((congrArg xs (nI_clamp (by omega))).trans hz2) ?_
  refine nr_callwiB (va_runV (As := [.int (z1), .int (z2)]) (rest := []) ⟨hx, hb, hml, hown, hts⟩ (hm H.size) ⟨callB_of 2 hts (gTB0 q_M_person) rfl hrM.1 hrM.2.1 (htb _ q4) (htb _ q673) hd_M_person ⟨by show rmM.frames + 1 ≤ 12; have := hrM.2.2.1; omega, by show 8 + (3 + 11) + rmM.locals ≤ 440; have := hrM.2.2.2; omega⟩, (htb _ q674), (htb _ q675)⟩ ⟨rw_blind, va_recv hK0 (va_P_right hP) (ci := 3) (q0 := 0) rfl rfl, rw_pre hN (va_P_right hP) hKm (va_D_right hD)⟩ rfl rfl hl.1 rfl (lv_room (Nat.le_of_ble_eq_true rfl)) d_L_law_196 ⟨hc.1, hc.2⟩) hP hD hS hA (fun r' u' H locs hu' hP hD hS => ?_)
  refine lv_istore (lv' := [(6, .int r'), (5, .int (nI kx)), (0, .ref b), (1, .ref (ad 0)), (2, .ref (am 0)), (3, .ref ao), (4, .int (nI (6 * t)))]) hx hb d_L_law_199 hl (by decide) rfl (fun ls hl => ?_)
  refine lv_aload_n hx hb d_L_law_201 rfl (lv_at hl 4 rfl) ?_
  refine nr_calli (va_runV (As := []) (rest := []) ⟨hx, hb, hml, hown, hts⟩ (c_M_thrown l D am cm (P2 u') (G2 u') (X2 u')) ⟨callB_of 0 hts (gTB0 q_M_thrown) rfl rfl rfl (htb _ q4) (htb _ q658) hd_M_thrown ⟨by decide, by decide⟩, (htb _ q659), (htb _ q660)⟩ ⟨ro_blind, va_recv hK0 (va_P_right hP) (ci := 3) (q0 := 0) rfl rfl, ro_pre hN (va_P_right hP) hKm⟩ rfl rfl hl.1 rfl (lv_room (Nat.le_of_ble_eq_true rfl)) d_L_law_202 ⟨hc.1, hc.2⟩) (fun r9 hr9 => ?_)
  subst hr9
  refine lv_iload hx hb d_L_law_205 (lv_at hl 1 rfl) ?_
  have hf := hfin _ _ _ hu hu'
  refine nr_icmp_eq (tgt := 212) hx hb (by omega) (by omega) d_L_law_207 (by decide) (fun _ => ?_) (fun h => by exfalso; omega)
  replace hP : va_P D cls (wL ad ca am cm (P1 u) (Sx u) (G1 u) (P2 u') (G2 u') (X2 u') ao co (v1 u)) H := by rw [← wL_assoc]; exact hP
  replace hD : va_D (LA s) (wL ad ca am cm (P1 u) (Sx u) (G1 u) (P2 u') (G2 u') (X2 u') ao co (v1 u)) := by rw [← wL_assoc]; exact hD
  refine lv_iload hx hb d_L_law_212 (lv_at hl 1 rfl) ?_
  refine nr_if_ne (tgt := 229) hx hb (by omega) d_L_law_214 (by decide) (fun _ => ?_) (fun h0 => ?_)
  · refine lv_goto (tgt := 1072) hx hb d_L_law_229 (by decide) ?_
    exact kk u r' u' H locs ls hu hu' hP hD hS (lv_sub hl [2, 3, 4, 5, 6] rfl)
  · refine lv_aload_n hx hb d_L_law_217 rfl (lv_at hl 5 rfl) ?_
    refine nr_iconst hx hb 0 d_L_law_218 (by decide) ?_
    refine va_lald hx hb hK1 (va_P_left (va_P_right hP)) 0 0 rfl rfl (nI_in (by decide) (by decide)) d_L_law_219 ?_
    refine lv_iload hx hb d_L_law_220 (lv_at hl 0 rfl) ?_
    refine lv_i2l (v := r'.toInt64) hx hb d_L_law_222 rfl ?_
    refine lv_lcmp_eq hx hb (hf.2 h0) d_L_law_223 ?_
    refine lv_if_eq (tgt := 229) hx hb d_L_law_224 (by decide) (fun _ => ?_) (fun h => absurd rfl h)
    refine lv_goto (tgt := 1072) hx hb d_L_law_229 (by decide) ?_
    exact kk u r' u' H locs ls hu hu' hP hD hS (lv_sub hl [2, 3, 4, 5, 6] rfl)
set_option maxHeartbeats 4000000 in
set_option maxRecDepth 100000 in
theorem tn_need {p : Program} {l : Launch} {e : Env} {s : State} {m : MethodId} {below : List Frame} {meth : Method} {c : Code} {b L : Nat} {xs : Nat → Int32} {H : Heap} {locs : List Loc} {cells slots : Nat} {Z : State → Prop} {ls : Array Slot} {D : va_G} {ad am : Nat → Nat} {ca cm : Nat → ClassId} {ao : Nat} {co : ClassId} {vo : Nat → Int64} {P S G X : Nat → Nat → Nat} {t : Nat} {S1 S2 : Type} {P1 Sx G1 : S1 → Nat → Nat → Nat} {P2 G2 X2 : S2 → Nat → Nat → Nat} {rmM : Room} {pw : S1 → Prop} {mc ms kx : Nat} {post2 : S2 → Prop} {z1 z2 z3 z4 : Int32} (C : LC p s m meth c b L xs) (hK : LK D ca cm co s) (ht : 6 * t + 6 ≤ L) (hP : va_P D cls (wL ad ca am cm P S G P G X ao co vo) H) (hD : va_D (LA s) (wL ad ca am cm P S G P G X ao co vo)) (hS : va_S (LA s) s.heap H locs) (hl : lv_has ls 7 (lL b ad am ao t)) (hz1 : xs (6 * t + 1) = z1) (hz2 : xs (6 * t + 2) = z2) (hz3 : xs (6 * t + 3) = z3) (hz4 : xs (6 * t + 4) = z4) (hc : cells + mc ≤ 1065 ∧ slots + ms ≤ 9580) (hw : ∀ sz, Met l y_L_need w_L_need { frames := 11, cells := mc, slots := ms, locals := 410 } (lw_PW [.ref (ad 0), .int (z1), .int (z2), .int (z3), .int (z4)] D (wR ad ca P S G) (tR ca) sz) (rw_Qi (fun (r : Int32) (u : S1) => r = nI kx ∧ pw u) D (wR ad ca P S G) (fun u => wR ad ca (P1 u) (Sx u) (G1 u)) sz) mc ms (va_A (wR ad ca P S G) sz)) (hrM : rmM.cells = 0 ∧ rmM.slots = 0 ∧ rmM.frames ≤ 11 ∧ rmM.locals ≤ 400) (hm : ∀ sz, Met l y_M_need w_M_need rmM (rw_P [.ref (am 0), .int (z1), .int (z2), .int (z3), .int (z4)] D (wM am cm P G X) (tM cm) sz) (rw_Qv post2 D (wM am cm P G X) (fun u => wM am cm (P2 u) (G2 u) (X2 u)) sz) 0 0 (va_A (wM am cm P G X) sz)) (hkx : kx ≤ 4) (hfin : ∀ u u', pw u → post2 u' → X2 u' 0 0 = kx) (kk : ∀ (u : S1) (u' : S2) (H1 : Heap) (locs1 : List Loc) (ls1 : Array Slot), pw u → post2 u' → va_P D cls (wL ad ca am cm (P1 u) (Sx u) (G1 u) (P2 u') (G2 u') (X2 u') ao co vo) H1 → va_D (LA s) (wL ad ca am cm (P1 u) (Sx u) (G1 u) (P2 u') (G2 u') (X2 u') ao co vo) → va_S (LA s) s.heap H1 locs1 → lv_has ls1 7 (lL b ad am ao t) → W p l e room_1 s m #[Value.ref b] below meth c H1 locs1 (cells + mc) (slots + ms) Z (F0 m 1072 ls1 [])) : W p l e room_1 s m #[Value.ref b] below meth c H locs cells slots Z (F0 m 232 ls []) := by
  obtain ⟨hx, hb, hr, hml, hown, hts, hN, hX, hCX, hV, hbl, hlocks, hL⟩ := C
  have htb := hts
  have hA : ∀ q : Nat, s.heap.size ≤ q → LA s q := fun q h => h
  have hbA : ¬ LA s b := Nat.not_le.mpr hbl
  obtain ⟨hK0, hKr, hKo, hK1, hKm⟩ := hK
  refine lv_aload_n hx hb d_L_law_232 rfl (lv_at hl 1 rfl) ?_
  refine lv_aload_n hx hb d_L_law_233 rfl (lv_at hl 0 rfl) ?_
  refine lv_iload hx hb d_L_law_234 (lv_at hl 4 rfl) ?_
  refine nr_iconst hx hb 1 d_L_law_236 (by decide) ?_
  refine nr_iadd hx hb d_L_law_237 ?_
  refine va_sld hx hb hV hbl hbA hS (nI_in (c := 6 * t + 1) (by omega) (by omega)) d_L_law_238 ?_
  refine nr_top (y := z1) ((congrArg xs (nI_clamp (by omega))).trans hz1) ?_
  refine lv_aload_n hx hb d_L_law_239 rfl (lv_at hl 0 rfl) ?_
  refine lv_iload hx hb d_L_law_240 (lv_at hl 4 rfl) ?_
  refine nr_iconst hx hb 2 d_L_law_242 (by decide) ?_
  refine nr_iadd hx hb d_L_law_243 ?_
  refine va_sld hx hb hV hbl hbA hS (nI_in (c := 6 * t + 2) (by omega) (by omega)) d_L_law_244 ?_
  refine nr_top (y := z2) ((congrArg xs (nI_clamp (by omega))).trans hz2) ?_
  refine lv_aload_n hx hb d_L_law_245 rfl (lv_at hl 0 rfl) ?_
  refine lv_iload hx hb d_L_law_246 (lv_at hl 4 rfl) ?_
  refine nr_iconst hx hb 3 d_L_law_248 (by decide) ?_
  refine nr_iadd hx hb d_L_law_249 ?_
  refine va_sld hx hb hV hbl hbA hS (nI_in (c := 6 * t + 3) (by omega) (by omega)) d_L_law_250 ?_
  refine nr_top (y := z3) ((congrArg xs (nI_clamp (by omega))).trans hz3) ?_
  refine lv_aload_n hx hb d_L_law_251 rfl (lv_at hl 0 rfl) ?_
  refine lv_iload hx hb d_L_law_252 (lv_at hl 4 rfl) ?_
  refine nr_iconst hx hb 4 d_L_law_254 (by decide) ?_
  refine nr_iadd hx hb d_L_law_255 ?_
  refine va_sld hx hb hV hbl hbA hS (nI_in (c := 6 * t + 4) (by omega) (by omega)) d_L_law_256 ?_
  refine nr_top (y := z4) ((congrArg xs (nI_clamp (by omega))).trans hz4) ?_
  refine nr_callwiA (va_runSW (As := [.ref (ad 0), .int (z1), .int (z2), .int (z3), .int (z4)]) (rest := []) ⟨hx, hb, hml, hown, hts⟩ (hw H.size) ⟨rfl, rfl⟩ ⟨Nat.le_of_ble_eq_true rfl, Nat.le_of_ble_eq_true rfl⟩ (pay_in hts (gTB0 q_L_need)) List.mem_cons_self (htb _ q356) (htb _ q357) (htb _ q0) ⟨hd_L_need.1, hd_L_need.2.1⟩ hd_L_need.2.2 ⟨lw_blind, fun U hU hW => ⟨rfl, by rw [hU], hN.warm hW, tx_law hX hS U hU hW, hCX.warm hW, by rw [hU]; exact va_P_left hP, va_K.moved hW.alike hKr, (va_D_left hD).weaken (fun _ _ _ _ => trivial)⟩⟩ rfl rfl hl.1 rfl (lv_room (Nat.le_of_ble_eq_true rfl)) d_L_law_257 hc) hP hD hS hA (fun r u H locs hu hP hD hS => ?_)
  obtain ⟨rfl, hu⟩ := hu
  refine lv_istore (lv' := [(5, .int (nI kx)), (0, .ref b), (1, .ref (ad 0)), (2, .ref (am 0)), (3, .ref ao), (4, .int (nI (6 * t)))]) hx hb d_L_law_260 hl (by decide) rfl (fun ls hl => ?_)
  refine lv_aload_n hx hb d_L_law_262 rfl (lv_at hl 3 rfl) ?_
  refine lv_aload_n hx hb d_L_law_263 rfl (lv_at hl 1 rfl) ?_
  refine lv_iload hx hb d_L_law_264 (lv_at hl 5 rfl) ?_
  refine nr_iconst hx hb 1 d_L_law_266 (by decide) ?_
  refine nr_iadd hx hb d_L_law_267 ?_
  refine va_sld hx hb hV hbl hbA hS (nI_in (c := 6 * t + 1) (by omega) (by omega)) d_L_law_268 ?_
  refine nr_top (y := z1) ((congrArg xs (nI_clamp (by omega))).trans hz1) ?_
  refine lv_aload_n hx hb d_L_law_269 rfl (lv_at hl 1 rfl) ?_
  refine lv_iload hx hb d_L_law_270 (lv_at hl 5 rfl) ?_
  refine nr_iconst hx hb 2 d_L_law_272 (by decide) ?_
  refine nr_iadd hx hb d_L_law_273 ?_
  refine va_sld hx hb hV hbl hbA hS (nI_in (c := 6 * t + 2) (by omega) (by omega)) d_L_law_274 ?_
  refine nr_top (y := z2) ((congrArg xs (nI_clamp (by omega))).trans hz2) ?_
  refine lv_aload_n hx hb d_L_law_275 rfl (lv_at hl 1 rfl) ?_
  refine lv_iload hx hb d_L_law_276 (lv_at hl 5 rfl) ?_
  refine nr_iconst hx hb 3 d_L_law_278 (by decide) ?_
  refine nr_iadd hx hb d_L_law_279 ?_
  refine va_sld hx hb hV hbl hbA hS (nI_in (c := 6 * t + 3) (by omega) (by omega)) d_L_law_280 ?_
  refine nr_top (y := z3) ((congrArg xs (nI_clamp (by omega))).trans hz3) ?_
  refine lv_aload_n hx hb d_L_law_281 rfl (lv_at hl 1 rfl) ?_
  refine lv_iload hx hb d_L_law_282 (lv_at hl 5 rfl) ?_
  refine nr_iconst hx hb 4 d_L_law_284 (by decide) ?_
  refine nr_iadd hx hb d_L_law_285 ?_
  refine va_sld hx hb hV hbl hbA hS (nI_in (c := 6 * t + 4) (by omega) (by omega)) d_L_law_286 ?_
  refine nr_top (y := z4) ((congrArg xs (nI_clamp (by omega))).trans hz4) ?_
  replace hP : va_P D cls (wRo ad ca (P1 u) (Sx u) (G1 u) ao co vo ++ wM am cm P G X) H := by rw [wL_assoc]; exact hP
  replace hD : va_D (LA s) (wRo ad ca (P1 u) (Sx u) (G1 u) ao co vo ++ wM am cm P G X) := by rw [wL_assoc]; exact hD
  refine nr_callvB (va_runV (As := [.int (z1), .int (z2), .int (z3), .int (z4)]) (rest := []) ⟨hx, hb, hml, hown, hts⟩ (hm H.size) ⟨callB_of 4 hts (gTB0 q_M_need) rfl hrM.1 hrM.2.1 (htb _ q4) (htb _ q677) hd_M_need ⟨by show rmM.frames + 1 ≤ 12; have := hrM.2.2.1; omega, by show 8 + (5 + 11) + rmM.locals ≤ 440; have := hrM.2.2.2; omega⟩, (htb _ q678), (htb _ q679)⟩ ⟨rw_blind, va_recv hK0 (va_P_right hP) (ci := 3) (q0 := 0) rfl rfl, rw_pre hN (va_P_right hP) hKm (va_D_right hD)⟩ rfl rfl hl.1 rfl (lv_room (Nat.le_of_ble_eq_true rfl)) d_L_law_287 ⟨hc.1, hc.2⟩) hP hD hS hA (fun u' H locs hu' hP hD hS => ?_)
  refine lv_aload_n hx hb d_L_law_290 rfl (lv_at hl 3 rfl) ?_
  refine nr_calli (va_runV (As := []) (rest := []) ⟨hx, hb, hml, hown, hts⟩ (c_M_thrown l D am cm (P2 u') (G2 u') (X2 u')) ⟨callB_of 0 hts (gTB0 q_M_thrown) rfl rfl rfl (htb _ q4) (htb _ q658) hd_M_thrown ⟨by decide, by decide⟩, (htb _ q659), (htb _ q660)⟩ ⟨ro_blind, va_recv hK0 (va_P_right hP) (ci := 3) (q0 := 0) rfl rfl, ro_pre hN (va_P_right hP) hKm⟩ rfl rfl hl.1 rfl (lv_room (Nat.le_of_ble_eq_true rfl)) d_L_law_291 ⟨hc.1, hc.2⟩) (fun r9 hr9 => ?_)
  subst hr9
  refine lv_iload hx hb d_L_law_294 (lv_at hl 0 rfl) ?_
  have hf := hfin _ _ hu hu'
  refine nr_icmp_eq (tgt := 301) hx hb (by omega) (by omega) d_L_law_296 (by decide) (fun _ => ?_) (fun h => by exfalso; omega)
  replace hP : va_P D cls (wL ad ca am cm (P1 u) (Sx u) (G1 u) (P2 u') (G2 u') (X2 u') ao co vo) H := by rw [← wL_assoc]; exact hP
  replace hD : va_D (LA s) (wL ad ca am cm (P1 u) (Sx u) (G1 u) (P2 u') (G2 u') (X2 u') ao co vo) := by rw [← wL_assoc]; exact hD
  refine lv_goto (tgt := 1072) hx hb d_L_law_301 (by decide) ?_
  exact kk u u' H locs ls hu hu' hP hD hS (lv_sub hl [1, 2, 3, 4, 5] rfl)
set_option maxHeartbeats 4000000 in
set_option maxRecDepth 100000 in
theorem tn_rules {p : Program} {l : Launch} {e : Env} {s : State} {m : MethodId} {below : List Frame} {meth : Method} {c : Code} {b L : Nat} {xs : Nat → Int32} {H : Heap} {locs : List Loc} {cells slots : Nat} {Z : State → Prop} {ls : Array Slot} {D : va_G} {ad am : Nat → Nat} {ca cm : Nat → ClassId} {ao : Nat} {co : ClassId} {vo : Nat → Int64} {P S G X : Nat → Nat → Nat} {t : Nat} {S1 S2 : Type} {P1 Sx G1 : S1 → Nat → Nat → Nat} {P2 G2 X2 : S2 → Nat → Nat → Nat} {rmM : Room} {pw : S1 → Prop} {mc ms kx : Nat} {post2 : S2 → Prop} {z1 z2 z3 : Int32} (C : LC p s m meth c b L xs) (hK : LK D ca cm co s) (ht : 6 * t + 6 ≤ L) (hP : va_P D cls (wL ad ca am cm P S G P G X ao co vo) H) (hD : va_D (LA s) (wL ad ca am cm P S G P G X ao co vo)) (hS : va_S (LA s) s.heap H locs) (hl : lv_has ls 7 (lL b ad am ao t)) (hz1 : xs (6 * t + 1) = z1) (hz2 : xs (6 * t + 2) = z2) (hz3 : xs (6 * t + 3) = z3) (hc : cells + mc ≤ 1065 ∧ slots + ms ≤ 9580) (hw : ∀ sz, Met l y_L_rules w_L_rules { frames := 11, cells := mc, slots := ms, locals := 410 } (lw_PW [.ref (ad 0), .int (z1), .int (z2), .int (z3)] D (wR ad ca P S G) (tR ca) sz) (rw_Qi (fun (r : Int32) (u : S1) => r = nI kx ∧ pw u) D (wR ad ca P S G) (fun u => wR ad ca (P1 u) (Sx u) (G1 u)) sz) mc ms (va_A (wR ad ca P S G) sz)) (hrM : rmM.cells = 0 ∧ rmM.slots = 0 ∧ rmM.frames ≤ 11 ∧ rmM.locals ≤ 400) (hm : ∀ sz, Met l y_M_rules w_M_rules rmM (rw_P [.ref (am 0), .int (z1), .int (z2), .int (z3)] D (wM am cm P G X) (tM cm) sz) (rw_Qv post2 D (wM am cm P G X) (fun u => wM am cm (P2 u) (G2 u) (X2 u)) sz) 0 0 (va_A (wM am cm P G X) sz)) (hkx : kx ≤ 4) (hfin : ∀ u u', pw u → post2 u' → X2 u' 0 0 = kx) (kk : ∀ (u : S1) (u' : S2) (H1 : Heap) (locs1 : List Loc) (ls1 : Array Slot), pw u → post2 u' → va_P D cls (wL ad ca am cm (P1 u) (Sx u) (G1 u) (P2 u') (G2 u') (X2 u') ao co vo) H1 → va_D (LA s) (wL ad ca am cm (P1 u) (Sx u) (G1 u) (P2 u') (G2 u') (X2 u') ao co vo) → va_S (LA s) s.heap H1 locs1 → lv_has ls1 7 (lL b ad am ao t) → W p l e room_1 s m #[Value.ref b] below meth c H1 locs1 (cells + mc) (slots + ms) Z (F0 m 1072 ls1 [])) : W p l e room_1 s m #[Value.ref b] below meth c H locs cells slots Z (F0 m 304 ls []) := by
  obtain ⟨hx, hb, hr, hml, hown, hts, hN, hX, hCX, hV, hbl, hlocks, hL⟩ := C
  have htb := hts
  have hA : ∀ q : Nat, s.heap.size ≤ q → LA s q := fun q h => h
  have hbA : ¬ LA s b := Nat.not_le.mpr hbl
  obtain ⟨hK0, hKr, hKo, hK1, hKm⟩ := hK
  refine lv_aload_n hx hb d_L_law_304 rfl (lv_at hl 1 rfl) ?_
  refine lv_aload_n hx hb d_L_law_305 rfl (lv_at hl 0 rfl) ?_
  refine lv_iload hx hb d_L_law_306 (lv_at hl 4 rfl) ?_
  refine nr_iconst hx hb 1 d_L_law_308 (by decide) ?_
  refine nr_iadd hx hb d_L_law_309 ?_
  refine va_sld hx hb hV hbl hbA hS (nI_in (c := 6 * t + 1) (by omega) (by omega)) d_L_law_310 ?_
  refine nr_top (y := z1) ((congrArg xs (nI_clamp (by omega))).trans hz1) ?_
  refine lv_aload_n hx hb d_L_law_311 rfl (lv_at hl 0 rfl) ?_
  refine lv_iload hx hb d_L_law_312 (lv_at hl 4 rfl) ?_
  refine nr_iconst hx hb 2 d_L_law_314 (by decide) ?_
  refine nr_iadd hx hb d_L_law_315 ?_
  refine va_sld hx hb hV hbl hbA hS (nI_in (c := 6 * t + 2) (by omega) (by omega)) d_L_law_316 ?_
  refine nr_top (y := z2) ((congrArg xs (nI_clamp (by omega))).trans hz2) ?_
  refine lv_aload_n hx hb d_L_law_317 rfl (lv_at hl 0 rfl) ?_
  refine lv_iload hx hb d_L_law_318 (lv_at hl 4 rfl) ?_
  refine nr_iconst hx hb 3 d_L_law_320 (by decide) ?_
  refine nr_iadd hx hb d_L_law_321 ?_
  refine va_sld hx hb hV hbl hbA hS (nI_in (c := 6 * t + 3) (by omega) (by omega)) d_L_law_322 ?_
  refine nr_top (y := z3) ((congrArg xs (nI_clamp (by omega))).trans hz3) ?_
  refine nr_callwiA (va_runSW (As := [.ref (ad 0), .int (z1), .int (z2), .int (z3)]) (rest := []) ⟨hx, hb, hml, hown, hts⟩ (hw H.size) ⟨rfl, rfl⟩ ⟨Nat.le_of_ble_eq_true rfl, Nat.le_of_ble_eq_true rfl⟩ (pay_in hts (gTB0 q_L_rules)) List.mem_cons_self (htb _ q391) (htb _ q392) (htb _ q0) ⟨hd_L_rules.1, hd_L_rules.2.1⟩ hd_L_rules.2.2 ⟨lw_blind, fun U hU hW => ⟨rfl, by rw [hU], hN.warm hW, tx_law hX hS U hU hW, hCX.warm hW, by rw [hU]; exact va_P_left hP, va_K.moved hW.alike hKr, (va_D_left hD).weaken (fun _ _ _ _ => trivial)⟩⟩ rfl rfl hl.1 rfl (lv_room (Nat.le_of_ble_eq_true rfl)) d_L_law_323 hc) hP hD hS hA (fun r u H locs hu hP hD hS => ?_)
  obtain ⟨rfl, hu⟩ := hu
  refine lv_istore (lv' := [(5, .int (nI kx)), (0, .ref b), (1, .ref (ad 0)), (2, .ref (am 0)), (3, .ref ao), (4, .int (nI (6 * t)))]) hx hb d_L_law_326 hl (by decide) rfl (fun ls hl => ?_)
  refine lv_aload_n hx hb d_L_law_328 rfl (lv_at hl 3 rfl) ?_
  refine lv_aload_n hx hb d_L_law_329 rfl (lv_at hl 1 rfl) ?_
  refine lv_iload hx hb d_L_law_330 (lv_at hl 5 rfl) ?_
  refine nr_iconst hx hb 1 d_L_law_332 (by decide) ?_
  refine nr_iadd hx hb d_L_law_333 ?_
  refine va_sld hx hb hV hbl hbA hS (nI_in (c := 6 * t + 1) (by omega) (by omega)) d_L_law_334 ?_
  refine nr_top (y := z1) ((congrArg xs (nI_clamp (by omega))).trans hz1) ?_
  refine lv_aload_n hx hb d_L_law_335 rfl (lv_at hl 1 rfl) ?_
  refine lv_iload hx hb d_L_law_336 (lv_at hl 5 rfl) ?_
  refine nr_iconst hx hb 2 d_L_law_338 (by decide) ?_
  refine nr_iadd hx hb d_L_law_339 ?_
  refine va_sld hx hb hV hbl hbA hS (nI_in (c := 6 * t + 2) (by omega) (by omega)) d_L_law_340 ?_
  refine nr_top (y := z2) ((congrArg xs (nI_clamp (by omega))).trans hz2) ?_
  refine lv_aload_n hx hb d_L_law_341 rfl (lv_at hl 1 rfl) ?_
  refine lv_iload hx hb d_L_law_342 (lv_at hl 5 rfl) ?_
  refine nr_iconst hx hb 3 d_L_law_344 (by decide) ?_
  refine nr_iadd hx hb d_L_law_345 ?_
  refine va_sld hx hb hV hbl hbA hS (nI_in (c := 6 * t + 3) (by omega) (by omega)) d_L_law_346 ?_
  refine nr_top (y := z3) ((congrArg xs (nI_clamp (by omega))).trans hz3) ?_
  replace hP : va_P D cls (wRo ad ca (P1 u) (Sx u) (G1 u) ao co vo ++ wM am cm P G X) H := by rw [wL_assoc]; exact hP
  replace hD : va_D (LA s) (wRo ad ca (P1 u) (Sx u) (G1 u) ao co vo ++ wM am cm P G X) := by rw [wL_assoc]; exact hD
  refine nr_callvB (va_runV (As := [.int (z1), .int (z2), .int (z3)]) (rest := []) ⟨hx, hb, hml, hown, hts⟩ (hm H.size) ⟨callB_of 3 hts (gTB0 q_M_rules) rfl hrM.1 hrM.2.1 (htb _ q4) (htb _ q685) hd_M_rules ⟨by show rmM.frames + 1 ≤ 12; have := hrM.2.2.1; omega, by show 8 + (4 + 11) + rmM.locals ≤ 440; have := hrM.2.2.2; omega⟩, (htb _ q686), (htb _ q687)⟩ ⟨rw_blind, va_recv hK0 (va_P_right hP) (ci := 3) (q0 := 0) rfl rfl, rw_pre hN (va_P_right hP) hKm (va_D_right hD)⟩ rfl rfl hl.1 rfl (lv_room (Nat.le_of_ble_eq_true rfl)) d_L_law_347 ⟨hc.1, hc.2⟩) hP hD hS hA (fun u' H locs hu' hP hD hS => ?_)
  refine lv_aload_n hx hb d_L_law_350 rfl (lv_at hl 3 rfl) ?_
  refine nr_calli (va_runV (As := []) (rest := []) ⟨hx, hb, hml, hown, hts⟩ (c_M_thrown l D am cm (P2 u') (G2 u') (X2 u')) ⟨callB_of 0 hts (gTB0 q_M_thrown) rfl rfl rfl (htb _ q4) (htb _ q658) hd_M_thrown ⟨by decide, by decide⟩, (htb _ q659), (htb _ q660)⟩ ⟨ro_blind, va_recv hK0 (va_P_right hP) (ci := 3) (q0 := 0) rfl rfl, ro_pre hN (va_P_right hP) hKm⟩ rfl rfl hl.1 rfl (lv_room (Nat.le_of_ble_eq_true rfl)) d_L_law_351 ⟨hc.1, hc.2⟩) (fun r9 hr9 => ?_)
  subst hr9
  refine lv_iload hx hb d_L_law_354 (lv_at hl 0 rfl) ?_
  have hf := hfin _ _ hu hu'
  refine nr_icmp_eq (tgt := 361) hx hb (by omega) (by omega) d_L_law_356 (by decide) (fun _ => ?_) (fun h => by exfalso; omega)
  replace hP : va_P D cls (wL ad ca am cm (P1 u) (Sx u) (G1 u) (P2 u') (G2 u') (X2 u') ao co vo) H := by rw [← wL_assoc]; exact hP
  replace hD : va_D (LA s) (wL ad ca am cm (P1 u) (Sx u) (G1 u) (P2 u') (G2 u') (X2 u') ao co vo) := by rw [← wL_assoc]; exact hD
  refine lv_goto (tgt := 1072) hx hb d_L_law_361 (by decide) ?_
  exact kk u u' H locs ls hu hu' hP hD hS (lv_sub hl [1, 2, 3, 4, 5] rfl)
set_option maxHeartbeats 4000000 in
set_option maxRecDepth 100000 in
theorem tn_bar {p : Program} {l : Launch} {e : Env} {s : State} {m : MethodId} {below : List Frame} {meth : Method} {c : Code} {b L : Nat} {xs : Nat → Int32} {H : Heap} {locs : List Loc} {cells slots : Nat} {Z : State → Prop} {ls : Array Slot} {D : va_G} {ad am : Nat → Nat} {ca cm : Nat → ClassId} {ao : Nat} {co : ClassId} {vo : Nat → Int64} {P S G X : Nat → Nat → Nat} {t : Nat} {S1 S2 : Type} {P1 Sx G1 : S1 → Nat → Nat → Nat} {P2 G2 X2 : S2 → Nat → Nat → Nat} {rmM : Room} {pw : S1 → Prop} {mc ms kx : Nat} {post2 : S2 → Prop} {z1 z2 z3 : Int32} (C : LC p s m meth c b L xs) (hK : LK D ca cm co s) (ht : 6 * t + 6 ≤ L) (hP : va_P D cls (wL ad ca am cm P S G P G X ao co vo) H) (hD : va_D (LA s) (wL ad ca am cm P S G P G X ao co vo)) (hS : va_S (LA s) s.heap H locs) (hl : lv_has ls 7 (lL b ad am ao t)) (hz1 : xs (6 * t + 1) = z1) (hz2 : xs (6 * t + 2) = z2) (hz3 : xs (6 * t + 3) = z3) (hc : cells + mc ≤ 1065 ∧ slots + ms ≤ 9580) (hw : ∀ sz, Met l y_L_bar w_L_bar { frames := 11, cells := mc, slots := ms, locals := 410 } (lw_PW [.ref (ad 0), .int (z1), .int (z2), .int (z3), .int (nI (b01 (xs (6 * t + 4))))] D (wR ad ca P S G) (tR ca) sz) (rw_Qi (fun (r : Int32) (u : S1) => r = nI kx ∧ pw u) D (wR ad ca P S G) (fun u => wR ad ca (P1 u) (Sx u) (G1 u)) sz) mc ms (va_A (wR ad ca P S G) sz)) (hrM : rmM.cells = 0 ∧ rmM.slots = 0 ∧ rmM.frames ≤ 11 ∧ rmM.locals ≤ 400) (hm : ∀ sz, Met l y_M_bar w_M_bar rmM (rw_P [.ref (am 0), .int (z1), .int (z2), .int (z3), .int (nI (b01 (xs (6 * t + 4))))] D (wM am cm P G X) (tM cm) sz) (rw_Qv post2 D (wM am cm P G X) (fun u => wM am cm (P2 u) (G2 u) (X2 u)) sz) 0 0 (va_A (wM am cm P G X) sz)) (hkx : kx ≤ 4) (hfin : ∀ u u', pw u → post2 u' → X2 u' 0 0 = kx) (kk : ∀ (u : S1) (u' : S2) (H1 : Heap) (locs1 : List Loc) (ls1 : Array Slot), pw u → post2 u' → va_P D cls (wL ad ca am cm (P1 u) (Sx u) (G1 u) (P2 u') (G2 u') (X2 u') ao co vo) H1 → va_D (LA s) (wL ad ca am cm (P1 u) (Sx u) (G1 u) (P2 u') (G2 u') (X2 u') ao co vo) → va_S (LA s) s.heap H1 locs1 → lv_has ls1 7 (lL b ad am ao t) → W p l e room_1 s m #[Value.ref b] below meth c H1 locs1 (cells + mc) (slots + ms) Z (F0 m 1072 ls1 [])) : W p l e room_1 s m #[Value.ref b] below meth c H locs cells slots Z (F0 m 364 ls []) := by
  obtain ⟨hx, hb, hr, hml, hown, hts, hN, hX, hCX, hV, hbl, hlocks, hL⟩ := C
  have htb := hts
  have hA : ∀ q : Nat, s.heap.size ≤ q → LA s q := fun q h => h
  have hbA : ¬ LA s b := Nat.not_le.mpr hbl
  obtain ⟨hK0, hKr, hKo, hK1, hKm⟩ := hK
  refine lv_aload_n hx hb d_L_law_364 rfl (lv_at hl 1 rfl) ?_
  refine lv_aload_n hx hb d_L_law_365 rfl (lv_at hl 0 rfl) ?_
  refine lv_iload hx hb d_L_law_366 (lv_at hl 4 rfl) ?_
  refine nr_iconst hx hb 1 d_L_law_368 (by decide) ?_
  refine nr_iadd hx hb d_L_law_369 ?_
  refine va_sld hx hb hV hbl hbA hS (nI_in (c := 6 * t + 1) (by omega) (by omega)) d_L_law_370 ?_
  refine nr_top (y := z1) ((congrArg xs (nI_clamp (by omega))).trans hz1) ?_
  refine lv_aload_n hx hb d_L_law_371 rfl (lv_at hl 0 rfl) ?_
  refine lv_iload hx hb d_L_law_372 (lv_at hl 4 rfl) ?_
  refine nr_iconst hx hb 2 d_L_law_374 (by decide) ?_
  refine nr_iadd hx hb d_L_law_375 ?_
  refine va_sld hx hb hV hbl hbA hS (nI_in (c := 6 * t + 2) (by omega) (by omega)) d_L_law_376 ?_
  refine nr_top (y := z2) ((congrArg xs (nI_clamp (by omega))).trans hz2) ?_
  refine lv_aload_n hx hb d_L_law_377 rfl (lv_at hl 0 rfl) ?_
  refine lv_iload hx hb d_L_law_378 (lv_at hl 4 rfl) ?_
  refine nr_iconst hx hb 3 d_L_law_380 (by decide) ?_
  refine nr_iadd hx hb d_L_law_381 ?_
  refine va_sld hx hb hV hbl hbA hS (nI_in (c := 6 * t + 3) (by omega) (by omega)) d_L_law_382 ?_
  refine nr_top (y := z3) ((congrArg xs (nI_clamp (by omega))).trans hz3) ?_
  refine lv_aload_n hx hb d_L_law_383 rfl (lv_at hl 0 rfl) ?_
  refine lv_iload hx hb d_L_law_384 (lv_at hl 4 rfl) ?_
  refine nr_iconst hx hb 4 d_L_law_386 (by decide) ?_
  refine nr_iadd hx hb d_L_law_387 ?_
  refine va_sld hx hb hV hbl hbA hS (nI_in (c := 6 * t + 4) (by omega) (by omega)) d_L_law_388 ?_
  refine nr_top (y := xs (6 * t + 4)) (congrArg xs (nI_clamp (by omega))) ?_
  refine nr_tobool hx hb d_L_law_389 d_L_law_392 d_L_law_393 d_L_law_396 ?_
  refine nr_callwiA (va_runSW (As := [.ref (ad 0), .int (z1), .int (z2), .int (z3), .int (nI (b01 (xs (6 * t + 4))))]) (rest := []) ⟨hx, hb, hml, hown, hts⟩ (hw H.size) ⟨rfl, rfl⟩ ⟨Nat.le_of_ble_eq_true rfl, Nat.le_of_ble_eq_true rfl⟩ (pay_in hts (gTB0 q_L_bar)) List.mem_cons_self (htb _ q402) (htb _ q403) (htb _ q0) ⟨hd_L_bar.1, hd_L_bar.2.1⟩ hd_L_bar.2.2 ⟨lw_blind, fun U hU hW => ⟨rfl, by rw [hU], hN.warm hW, tx_law hX hS U hU hW, hCX.warm hW, by rw [hU]; exact va_P_left hP, va_K.moved hW.alike hKr, (va_D_left hD).weaken (fun _ _ _ _ => trivial)⟩⟩ rfl rfl hl.1 rfl (lv_room (Nat.le_of_ble_eq_true rfl)) d_L_law_397 hc) hP hD hS hA (fun r u H locs hu hP hD hS => ?_)
  obtain ⟨rfl, hu⟩ := hu
  refine lv_istore (lv' := [(5, .int (nI kx)), (0, .ref b), (1, .ref (ad 0)), (2, .ref (am 0)), (3, .ref ao), (4, .int (nI (6 * t)))]) hx hb d_L_law_400 hl (by decide) rfl (fun ls hl => ?_)
  refine lv_aload_n hx hb d_L_law_402 rfl (lv_at hl 3 rfl) ?_
  refine lv_aload_n hx hb d_L_law_403 rfl (lv_at hl 1 rfl) ?_
  refine lv_iload hx hb d_L_law_404 (lv_at hl 5 rfl) ?_
  refine nr_iconst hx hb 1 d_L_law_406 (by decide) ?_
  refine nr_iadd hx hb d_L_law_407 ?_
  refine va_sld hx hb hV hbl hbA hS (nI_in (c := 6 * t + 1) (by omega) (by omega)) d_L_law_408 ?_
  refine nr_top (y := z1) ((congrArg xs (nI_clamp (by omega))).trans hz1) ?_
  refine lv_aload_n hx hb d_L_law_409 rfl (lv_at hl 1 rfl) ?_
  refine lv_iload hx hb d_L_law_410 (lv_at hl 5 rfl) ?_
  refine nr_iconst hx hb 2 d_L_law_412 (by decide) ?_
  refine nr_iadd hx hb d_L_law_413 ?_
  refine va_sld hx hb hV hbl hbA hS (nI_in (c := 6 * t + 2) (by omega) (by omega)) d_L_law_414 ?_
  refine nr_top (y := z2) ((congrArg xs (nI_clamp (by omega))).trans hz2) ?_
  refine lv_aload_n hx hb d_L_law_415 rfl (lv_at hl 1 rfl) ?_
  refine lv_iload hx hb d_L_law_416 (lv_at hl 5 rfl) ?_
  refine nr_iconst hx hb 3 d_L_law_418 (by decide) ?_
  refine nr_iadd hx hb d_L_law_419 ?_
  refine va_sld hx hb hV hbl hbA hS (nI_in (c := 6 * t + 3) (by omega) (by omega)) d_L_law_420 ?_
  refine nr_top (y := z3) ((congrArg xs (nI_clamp (by omega))).trans hz3) ?_
  refine lv_aload_n hx hb d_L_law_421 rfl (lv_at hl 1 rfl) ?_
  refine lv_iload hx hb d_L_law_422 (lv_at hl 5 rfl) ?_
  refine nr_iconst hx hb 4 d_L_law_424 (by decide) ?_
  refine nr_iadd hx hb d_L_law_425 ?_
  refine va_sld hx hb hV hbl hbA hS (nI_in (c := 6 * t + 4) (by omega) (by omega)) d_L_law_426 ?_
  refine nr_top (y := xs (6 * t + 4)) (congrArg xs (nI_clamp (by omega))) ?_
  refine nr_tobool hx hb d_L_law_427 d_L_law_430 d_L_law_431 d_L_law_434 ?_
  replace hP : va_P D cls (wRo ad ca (P1 u) (Sx u) (G1 u) ao co vo ++ wM am cm P G X) H := by rw [wL_assoc]; exact hP
  replace hD : va_D (LA s) (wRo ad ca (P1 u) (Sx u) (G1 u) ao co vo ++ wM am cm P G X) := by rw [wL_assoc]; exact hD
  refine nr_callvB (va_runV (As := [.int (z1), .int (z2), .int (z3), .int (nI (b01 (xs (6 * t + 4))))]) (rest := []) ⟨hx, hb, hml, hown, hts⟩ (hm H.size) ⟨callB_of 4 hts (gTB0 q_M_bar) rfl hrM.1 hrM.2.1 (htb _ q4) (htb _ q689) hd_M_bar ⟨by show rmM.frames + 1 ≤ 12; have := hrM.2.2.1; omega, by show 8 + (5 + 11) + rmM.locals ≤ 440; have := hrM.2.2.2; omega⟩, (htb _ q690), (htb _ q691)⟩ ⟨rw_blind, va_recv hK0 (va_P_right hP) (ci := 3) (q0 := 0) rfl rfl, rw_pre hN (va_P_right hP) hKm (va_D_right hD)⟩ rfl rfl hl.1 rfl (lv_room (Nat.le_of_ble_eq_true rfl)) d_L_law_435 ⟨hc.1, hc.2⟩) hP hD hS hA (fun u' H locs hu' hP hD hS => ?_)
  refine lv_aload_n hx hb d_L_law_438 rfl (lv_at hl 3 rfl) ?_
  refine nr_calli (va_runV (As := []) (rest := []) ⟨hx, hb, hml, hown, hts⟩ (c_M_thrown l D am cm (P2 u') (G2 u') (X2 u')) ⟨callB_of 0 hts (gTB0 q_M_thrown) rfl rfl rfl (htb _ q4) (htb _ q658) hd_M_thrown ⟨by decide, by decide⟩, (htb _ q659), (htb _ q660)⟩ ⟨ro_blind, va_recv hK0 (va_P_right hP) (ci := 3) (q0 := 0) rfl rfl, ro_pre hN (va_P_right hP) hKm⟩ rfl rfl hl.1 rfl (lv_room (Nat.le_of_ble_eq_true rfl)) d_L_law_439 ⟨hc.1, hc.2⟩) (fun r9 hr9 => ?_)
  subst hr9
  refine lv_iload hx hb d_L_law_442 (lv_at hl 0 rfl) ?_
  have hf := hfin _ _ hu hu'
  refine nr_icmp_eq (tgt := 449) hx hb (by omega) (by omega) d_L_law_444 (by decide) (fun _ => ?_) (fun h => by exfalso; omega)
  replace hP : va_P D cls (wL ad ca am cm (P1 u) (Sx u) (G1 u) (P2 u') (G2 u') (X2 u') ao co vo) H := by rw [← wL_assoc]; exact hP
  replace hD : va_D (LA s) (wL ad ca am cm (P1 u) (Sx u) (G1 u) (P2 u') (G2 u') (X2 u') ao co vo) := by rw [← wL_assoc]; exact hD
  refine lv_goto (tgt := 1072) hx hb d_L_law_449 (by decide) ?_
  exact kk u u' H locs ls hu hu' hP hD hS (lv_sub hl [1, 2, 3, 4, 5] rfl)
set_option maxHeartbeats 4000000 in
set_option maxRecDepth 100000 in
theorem tn_wish {p : Program} {l : Launch} {e : Env} {s : State} {m : MethodId} {below : List Frame} {meth : Method} {c : Code} {b L : Nat} {xs : Nat → Int32} {H : Heap} {locs : List Loc} {cells slots : Nat} {Z : State → Prop} {ls : Array Slot} {D : va_G} {ad am : Nat → Nat} {ca cm : Nat → ClassId} {ao : Nat} {co : ClassId} {vo : Nat → Int64} {P S G X : Nat → Nat → Nat} {t : Nat} {S1 S2 : Type} {P1 Sx G1 : S1 → Nat → Nat → Nat} {P2 G2 X2 : S2 → Nat → Nat → Nat} {rmM : Room} {pw : S1 → Prop} {mc ms kx : Nat} {post2 : Int32 → S2 → Prop} {v1 : S1 → Nat → Int64} {z1 z2 z3 z5 : Int32} (C : LC p s m meth c b L xs) (hK : LK D ca cm co s) (ht : 6 * t + 6 ≤ L) (hP : va_P D cls (wL ad ca am cm P S G P G X ao co vo) H) (hD : va_D (LA s) (wL ad ca am cm P S G P G X ao co vo)) (hS : va_S (LA s) s.heap H locs) (hl : lv_has ls 7 (lL b ad am ao t)) (hz1 : xs (6 * t + 1) = z1) (hz2 : xs (6 * t + 2) = z2) (hz3 : xs (6 * t + 3) = z3) (hz5 : xs (6 * t + 5) = z5) (hc : cells + mc ≤ 1065 ∧ slots + ms ≤ 9580) (hw : ∀ sz, Met l y_L_wish w_L_wish { frames := 11, cells := mc, slots := ms, locals := 410 } (lw_PW [.ref (ad 0), .int (z1), .int (z2), .int (z3), .int (nI (b01 (xs (6 * t + 4)))), .int (z5), .ref ao] D (wRo ad ca P S G ao co vo) (tRo ca co) sz) (rw_Qi (fun (r : Int32) (u : S1) => r = nI kx ∧ pw u) D (wRo ad ca P S G ao co vo) (fun u => wRo ad ca (P1 u) (Sx u) (G1 u) ao co (v1 u)) sz) mc ms (va_A (wRo ad ca P S G ao co vo) sz)) (hrM : rmM.cells = 0 ∧ rmM.slots = 0 ∧ rmM.frames ≤ 11 ∧ rmM.locals ≤ 400) (hm : ∀ sz, Met l y_M_wish w_M_wish rmM (rw_P [.ref (am 0), .int (z1), .int (z2), .int (z3), .int (nI (b01 (xs (6 * t + 4)))), .int (z5)] D (wM am cm P G X) (tM cm) sz) (rw_Qi post2 D (wM am cm P G X) (fun u => wM am cm (P2 u) (G2 u) (X2 u)) sz) 0 0 (va_A (wM am cm P G X) sz)) (hkx : kx ≤ 4) (hfin : ∀ u r' u', pw u → post2 r' u' → X2 u' 0 0 = kx ∧ (kx = 0 → v1 u 0 = r'.toInt64)) (kk : ∀ (u : S1) (r' : Int32) (u' : S2) (H1 : Heap) (locs1 : List Loc) (ls1 : Array Slot), pw u → post2 r' u' → va_P D cls (wL ad ca am cm (P1 u) (Sx u) (G1 u) (P2 u') (G2 u') (X2 u') ao co (v1 u)) H1 → va_D (LA s) (wL ad ca am cm (P1 u) (Sx u) (G1 u) (P2 u') (G2 u') (X2 u') ao co (v1 u)) → va_S (LA s) s.heap H1 locs1 → lv_has ls1 7 (lL b ad am ao t) → W p l e room_1 s m #[Value.ref b] below meth c H1 locs1 (cells + mc) (slots + ms) Z (F0 m 1072 ls1 [])) : W p l e room_1 s m #[Value.ref b] below meth c H locs cells slots Z (F0 m 452 ls []) := by
  obtain ⟨hx, hb, hr, hml, hown, hts, hN, hX, hCX, hV, hbl, hlocks, hL⟩ := C
  have htb := hts
  have hA : ∀ q : Nat, s.heap.size ≤ q → LA s q := fun q h => h
  have hbA : ¬ LA s b := Nat.not_le.mpr hbl
  obtain ⟨hK0, hKr, hKo, hK1, hKm⟩ := hK
  refine lv_aload_n hx hb d_L_law_452 rfl (lv_at hl 1 rfl) ?_
  refine lv_aload_n hx hb d_L_law_453 rfl (lv_at hl 0 rfl) ?_
  refine lv_iload hx hb d_L_law_454 (lv_at hl 4 rfl) ?_
  refine nr_iconst hx hb 1 d_L_law_456 (by decide) ?_
  refine nr_iadd hx hb d_L_law_457 ?_
  refine va_sld hx hb hV hbl hbA hS (nI_in (c := 6 * t + 1) (by omega) (by omega)) d_L_law_458 ?_
  refine nr_top (y := z1) ((congrArg xs (nI_clamp (by omega))).trans hz1) ?_
  refine lv_aload_n hx hb d_L_law_459 rfl (lv_at hl 0 rfl) ?_
  refine lv_iload hx hb d_L_law_460 (lv_at hl 4 rfl) ?_
  refine nr_iconst hx hb 2 d_L_law_462 (by decide) ?_
  refine nr_iadd hx hb d_L_law_463 ?_
  refine va_sld hx hb hV hbl hbA hS (nI_in (c := 6 * t + 2) (by omega) (by omega)) d_L_law_464 ?_
  refine nr_top (y := z2) ((congrArg xs (nI_clamp (by omega))).trans hz2) ?_
  refine lv_aload_n hx hb d_L_law_465 rfl (lv_at hl 0 rfl) ?_
  refine lv_iload hx hb d_L_law_466 (lv_at hl 4 rfl) ?_
  refine nr_iconst hx hb 3 d_L_law_468 (by decide) ?_
  refine nr_iadd hx hb d_L_law_469 ?_
  refine va_sld hx hb hV hbl hbA hS (nI_in (c := 6 * t + 3) (by omega) (by omega)) d_L_law_470 ?_
  refine nr_top (y := z3) ((congrArg xs (nI_clamp (by omega))).trans hz3) ?_
  refine lv_aload_n hx hb d_L_law_471 rfl (lv_at hl 0 rfl) ?_
  refine lv_iload hx hb d_L_law_472 (lv_at hl 4 rfl) ?_
  refine nr_iconst hx hb 4 d_L_law_474 (by decide) ?_
  refine nr_iadd hx hb d_L_law_475 ?_
  refine va_sld hx hb hV hbl hbA hS (nI_in (c := 6 * t + 4) (by omega) (by omega)) d_L_law_476 ?_
  refine nr_top (y := xs (6 * t + 4)) (congrArg xs (nI_clamp (by omega))) ?_
  refine nr_tobool hx hb d_L_law_477 d_L_law_480 d_L_law_481 d_L_law_484 ?_
  refine lv_aload_n hx hb d_L_law_485 rfl (lv_at hl 0 rfl) ?_
  refine lv_iload hx hb d_L_law_486 (lv_at hl 4 rfl) ?_
  refine nr_iconst hx hb 5 d_L_law_488 (by decide) ?_
  refine nr_iadd hx hb d_L_law_489 ?_
  refine va_sld hx hb hV hbl hbA hS (nI_in (c := 6 * t + 5) (by omega) (by omega)) d_L_law_490 ?_
  refine nr_top (y := z5) ((congrArg xs (nI_clamp (by omega))).trans hz5) ?_
  refine lv_aload_n hx hb d_L_law_491 rfl (lv_at hl 3 rfl) ?_
  replace hP : va_P D cls (wRo ad ca P S G ao co vo ++ wM am cm P G X) H := by rw [wL_assoc]; exact hP
  replace hD : va_D (LA s) (wRo ad ca P S G ao co vo ++ wM am cm P G X) := by rw [wL_assoc]; exact hD
  refine nr_callwiA (va_runSW (As := [.ref (ad 0), .int (z1), .int (z2), .int (z3), .int (nI (b01 (xs (6 * t + 4)))), .int (z5), .ref ao]) (rest := []) ⟨hx, hb, hml, hown, hts⟩ (hw H.size) ⟨rfl, rfl⟩ ⟨Nat.le_of_ble_eq_true rfl, Nat.le_of_ble_eq_true rfl⟩ (pay_in hts (gTB0 q_L_wish)) List.mem_cons_self (htb _ q414) (htb _ q415) (htb _ q0) ⟨hd_L_wish.1, hd_L_wish.2.1⟩ hd_L_wish.2.2 ⟨lw_blind, fun U hU hW => ⟨rfl, by rw [hU], hN.warm hW, tx_law hX hS U hU hW, hCX.warm hW, by rw [hU]; exact va_P_left hP, va_K.moved hW.alike hKo, (va_D_left hD).weaken (fun _ _ _ _ => trivial)⟩⟩ rfl rfl hl.1 rfl (lv_room (Nat.le_of_ble_eq_true rfl)) d_L_law_492 hc) hP hD hS hA (fun r u H locs hu hP hD hS => ?_)
  obtain ⟨rfl, hu⟩ := hu
  refine lv_istore (lv' := [(5, .int (nI kx)), (0, .ref b), (1, .ref (ad 0)), (2, .ref (am 0)), (3, .ref ao), (4, .int (nI (6 * t)))]) hx hb d_L_law_495 hl (by decide) rfl (fun ls hl => ?_)
  refine lv_aload_n hx hb d_L_law_497 rfl (lv_at hl 3 rfl) ?_
  refine lv_aload_n hx hb d_L_law_498 rfl (lv_at hl 1 rfl) ?_
  refine lv_iload hx hb d_L_law_499 (lv_at hl 5 rfl) ?_
  refine nr_iconst hx hb 1 d_L_law_501 (by decide) ?_
  refine nr_iadd hx hb d_L_law_502 ?_
  refine va_sld hx hb hV hbl hbA hS (nI_in (c := 6 * t + 1) (by omega) (by omega)) d_L_law_503 ?_
  refine nr_top (y := z1) ((congrArg xs (nI_clamp (by omega))).trans hz1) ?_
  refine lv_aload_n hx hb d_L_law_504 rfl (lv_at hl 1 rfl) ?_
  refine lv_iload hx hb d_L_law_505 (lv_at hl 5 rfl) ?_
  refine nr_iconst hx hb 2 d_L_law_507 (by decide) ?_
  refine nr_iadd hx hb d_L_law_508 ?_
  refine va_sld hx hb hV hbl hbA hS (nI_in (c := 6 * t + 2) (by omega) (by omega)) d_L_law_509 ?_
  refine nr_top (y := z2) ((congrArg xs (nI_clamp (by omega))).trans hz2) ?_
  refine lv_aload_n hx hb d_L_law_510 rfl (lv_at hl 1 rfl) ?_
  refine lv_iload hx hb d_L_law_511 (lv_at hl 5 rfl) ?_
  refine nr_iconst hx hb 3 d_L_law_513 (by decide) ?_
  refine nr_iadd hx hb d_L_law_514 ?_
  refine va_sld hx hb hV hbl hbA hS (nI_in (c := 6 * t + 3) (by omega) (by omega)) d_L_law_515 ?_
  refine nr_top (y := z3) ((congrArg xs (nI_clamp (by omega))).trans hz3) ?_
  refine lv_aload_n hx hb d_L_law_516 rfl (lv_at hl 1 rfl) ?_
  refine lv_iload hx hb d_L_law_517 (lv_at hl 5 rfl) ?_
  refine nr_iconst hx hb 4 d_L_law_519 (by decide) ?_
  refine nr_iadd hx hb d_L_law_520 ?_
  refine va_sld hx hb hV hbl hbA hS (nI_in (c := 6 * t + 4) (by omega) (by omega)) d_L_law_521 ?_
  refine nr_top (y := xs (6 * t + 4)) (congrArg xs (nI_clamp (by omega))) ?_
  refine nr_tobool hx hb d_L_law_522 d_L_law_525 d_L_law_526 d_L_law_529 ?_
  refine lv_aload_n hx hb d_L_law_530 rfl (lv_at hl 1 rfl) ?_
  refine lv_iload hx hb d_L_law_531 (lv_at hl 5 rfl) ?_
  refine nr_iconst hx hb 5 d_L_law_533 (by decide) ?_
  refine nr_iadd hx hb d_L_law_534 ?_
  refine va_sld hx hb hV hbl hbA hS (nI_in (c := 6 * t + 5) (by omega) (by omega)) d_L_law_535 ?_
  refine nr_top (y := z5) ((congrArg xs (nI_clamp (by omega))).trans hz5) ?_
  refine nr_callwiB (va_runV (As := [.int (z1), .int (z2), .int (z3), .int (nI (b01 (xs (6 * t + 4)))), .int (z5)]) (rest := []) ⟨hx, hb, hml, hown, hts⟩ (hm H.size) ⟨callB_of 5 hts (gTB0 q_M_wish) rfl hrM.1 hrM.2.1 (htb _ q4) (htb _ q697) hd_M_wish ⟨by show rmM.frames + 1 ≤ 12; have := hrM.2.2.1; omega, by show 8 + (7 + 11) + rmM.locals ≤ 440; have := hrM.2.2.2; omega⟩, (htb _ q698), (htb _ q699)⟩ ⟨rw_blind, va_recv hK0 (va_P_right hP) (ci := 3) (q0 := 0) rfl rfl, rw_pre hN (va_P_right hP) hKm (va_D_right hD)⟩ rfl rfl hl.1 rfl (lv_room (Nat.le_of_ble_eq_true rfl)) d_L_law_536 ⟨hc.1, hc.2⟩) hP hD hS hA (fun r' u' H locs hu' hP hD hS => ?_)
  refine lv_istore (lv' := [(6, .int r'), (5, .int (nI kx)), (0, .ref b), (1, .ref (ad 0)), (2, .ref (am 0)), (3, .ref ao), (4, .int (nI (6 * t)))]) hx hb d_L_law_539 hl (by decide) rfl (fun ls hl => ?_)
  refine lv_aload_n hx hb d_L_law_541 rfl (lv_at hl 4 rfl) ?_
  refine nr_calli (va_runV (As := []) (rest := []) ⟨hx, hb, hml, hown, hts⟩ (c_M_thrown l D am cm (P2 u') (G2 u') (X2 u')) ⟨callB_of 0 hts (gTB0 q_M_thrown) rfl rfl rfl (htb _ q4) (htb _ q658) hd_M_thrown ⟨by decide, by decide⟩, (htb _ q659), (htb _ q660)⟩ ⟨ro_blind, va_recv hK0 (va_P_right hP) (ci := 3) (q0 := 0) rfl rfl, ro_pre hN (va_P_right hP) hKm⟩ rfl rfl hl.1 rfl (lv_room (Nat.le_of_ble_eq_true rfl)) d_L_law_542 ⟨hc.1, hc.2⟩) (fun r9 hr9 => ?_)
  subst hr9
  refine lv_iload hx hb d_L_law_545 (lv_at hl 1 rfl) ?_
  have hf := hfin _ _ _ hu hu'
  refine nr_icmp_eq (tgt := 552) hx hb (by omega) (by omega) d_L_law_547 (by decide) (fun _ => ?_) (fun h => by exfalso; omega)
  replace hP : va_P D cls (wL ad ca am cm (P1 u) (Sx u) (G1 u) (P2 u') (G2 u') (X2 u') ao co (v1 u)) H := by rw [← wL_assoc]; exact hP
  replace hD : va_D (LA s) (wL ad ca am cm (P1 u) (Sx u) (G1 u) (P2 u') (G2 u') (X2 u') ao co (v1 u)) := by rw [← wL_assoc]; exact hD
  refine lv_iload hx hb d_L_law_552 (lv_at hl 1 rfl) ?_
  refine nr_if_ne (tgt := 569) hx hb (by omega) d_L_law_554 (by decide) (fun _ => ?_) (fun h0 => ?_)
  · refine lv_goto (tgt := 1072) hx hb d_L_law_569 (by decide) ?_
    exact kk u r' u' H locs ls hu hu' hP hD hS (lv_sub hl [2, 3, 4, 5, 6] rfl)
  · refine lv_aload_n hx hb d_L_law_557 rfl (lv_at hl 5 rfl) ?_
    refine nr_iconst hx hb 0 d_L_law_558 (by decide) ?_
    refine va_lald hx hb hK1 (va_P_left (va_P_right hP)) 0 0 rfl rfl (nI_in (by decide) (by decide)) d_L_law_559 ?_
    refine lv_iload hx hb d_L_law_560 (lv_at hl 0 rfl) ?_
    refine lv_i2l (v := r'.toInt64) hx hb d_L_law_562 rfl ?_
    refine lv_lcmp_eq hx hb (hf.2 h0) d_L_law_563 ?_
    refine lv_if_eq (tgt := 569) hx hb d_L_law_564 (by decide) (fun _ => ?_) (fun h => absurd rfl h)
    refine lv_goto (tgt := 1072) hx hb d_L_law_569 (by decide) ?_
    exact kk u r' u' H locs ls hu hu' hP hD hS (lv_sub hl [2, 3, 4, 5, 6] rfl)
set_option maxHeartbeats 4000000 in
set_option maxRecDepth 100000 in
theorem tn_freeze {p : Program} {l : Launch} {e : Env} {s : State} {m : MethodId} {below : List Frame} {meth : Method} {c : Code} {b L : Nat} {xs : Nat → Int32} {H : Heap} {locs : List Loc} {cells slots : Nat} {Z : State → Prop} {ls : Array Slot} {D : va_G} {ad am : Nat → Nat} {ca cm : Nat → ClassId} {ao : Nat} {co : ClassId} {vo : Nat → Int64} {P S G X : Nat → Nat → Nat} {t : Nat} {S1 S2 : Type} {P1 Sx G1 : S1 → Nat → Nat → Nat} {P2 G2 X2 : S2 → Nat → Nat → Nat} {rmM : Room} {pw : S1 → Prop} {mc ms kx : Nat} {post2 : S2 → Prop} {z1 : Int32} (C : LC p s m meth c b L xs) (hK : LK D ca cm co s) (ht : 6 * t + 6 ≤ L) (hP : va_P D cls (wL ad ca am cm P S G P G X ao co vo) H) (hD : va_D (LA s) (wL ad ca am cm P S G P G X ao co vo)) (hS : va_S (LA s) s.heap H locs) (hl : lv_has ls 7 (lL b ad am ao t)) (hz1 : xs (6 * t + 1) = z1) (hc : cells + mc ≤ 1065 ∧ slots + ms ≤ 9580) (hw : ∀ sz, Met l y_L_freeze w_L_freeze { frames := 11, cells := mc, slots := ms, locals := 410 } (lw_PW [.ref (ad 0), .int (z1)] D (wR ad ca P S G) (tR ca) sz) (rw_Qi (fun (r : Int32) (u : S1) => r = nI kx ∧ pw u) D (wR ad ca P S G) (fun u => wR ad ca (P1 u) (Sx u) (G1 u)) sz) mc ms (va_A (wR ad ca P S G) sz)) (hrM : rmM.cells = 0 ∧ rmM.slots = 0 ∧ rmM.frames ≤ 11 ∧ rmM.locals ≤ 400) (hm : ∀ sz, Met l y_M_freeze w_M_freeze rmM (rw_P [.ref (am 0), .int (z1)] D (wM am cm P G X) (tM cm) sz) (rw_Qv post2 D (wM am cm P G X) (fun u => wM am cm (P2 u) (G2 u) (X2 u)) sz) 0 0 (va_A (wM am cm P G X) sz)) (hkx : kx ≤ 4) (hfin : ∀ u u', pw u → post2 u' → X2 u' 0 0 = kx) (kk : ∀ (u : S1) (u' : S2) (H1 : Heap) (locs1 : List Loc) (ls1 : Array Slot), pw u → post2 u' → va_P D cls (wL ad ca am cm (P1 u) (Sx u) (G1 u) (P2 u') (G2 u') (X2 u') ao co vo) H1 → va_D (LA s) (wL ad ca am cm (P1 u) (Sx u) (G1 u) (P2 u') (G2 u') (X2 u') ao co vo) → va_S (LA s) s.heap H1 locs1 → lv_has ls1 7 (lL b ad am ao t) → W p l e room_1 s m #[Value.ref b] below meth c H1 locs1 (cells + mc) (slots + ms) Z (F0 m 1072 ls1 [])) : W p l e room_1 s m #[Value.ref b] below meth c H locs cells slots Z (F0 m 572 ls []) := by
  obtain ⟨hx, hb, hr, hml, hown, hts, hN, hX, hCX, hV, hbl, hlocks, hL⟩ := C
  have htb := hts
  have hA : ∀ q : Nat, s.heap.size ≤ q → LA s q := fun q h => h
  have hbA : ¬ LA s b := Nat.not_le.mpr hbl
  obtain ⟨hK0, hKr, hKo, hK1, hKm⟩ := hK
  refine lv_aload_n hx hb d_L_law_572 rfl (lv_at hl 1 rfl) ?_
  refine lv_aload_n hx hb d_L_law_573 rfl (lv_at hl 0 rfl) ?_
  refine lv_iload hx hb d_L_law_574 (lv_at hl 4 rfl) ?_
  refine nr_iconst hx hb 1 d_L_law_576 (by decide) ?_
  refine nr_iadd hx hb d_L_law_577 ?_
  refine va_sld hx hb hV hbl hbA hS (nI_in (c := 6 * t + 1) (by omega) (by omega)) d_L_law_578 ?_
  refine nr_top (y := z1) ((congrArg xs (nI_clamp (by omega))).trans hz1) ?_
  refine nr_callwiA (va_runSW (As := [.ref (ad 0), .int (z1)]) (rest := []) ⟨hx, hb, hml, hown, hts⟩ (hw H.size) ⟨rfl, rfl⟩ ⟨Nat.le_of_ble_eq_true rfl, Nat.le_of_ble_eq_true rfl⟩ (pay_in hts (gTB0 q_L_freeze)) List.mem_cons_self (htb _ q446) (htb _ q447) (htb _ q0) ⟨hd_L_freeze.1, hd_L_freeze.2.1⟩ hd_L_freeze.2.2 ⟨lw_blind, fun U hU hW => ⟨rfl, by rw [hU], hN.warm hW, tx_law hX hS U hU hW, hCX.warm hW, by rw [hU]; exact va_P_left hP, va_K.moved hW.alike hKr, (va_D_left hD).weaken (fun _ _ _ _ => trivial)⟩⟩ rfl rfl hl.1 rfl (lv_room (Nat.le_of_ble_eq_true rfl)) d_L_law_579 hc) hP hD hS hA (fun r u H locs hu hP hD hS => ?_)
  obtain ⟨rfl, hu⟩ := hu
  refine lv_istore (lv' := [(5, .int (nI kx)), (0, .ref b), (1, .ref (ad 0)), (2, .ref (am 0)), (3, .ref ao), (4, .int (nI (6 * t)))]) hx hb d_L_law_582 hl (by decide) rfl (fun ls hl => ?_)
  refine lv_aload_n hx hb d_L_law_584 rfl (lv_at hl 3 rfl) ?_
  refine lv_aload_n hx hb d_L_law_585 rfl (lv_at hl 1 rfl) ?_
  refine lv_iload hx hb d_L_law_586 (lv_at hl 5 rfl) ?_
  refine nr_iconst hx hb 1 d_L_law_588 (by decide) ?_
  refine nr_iadd hx hb d_L_law_589 ?_
  refine va_sld hx hb hV hbl hbA hS (nI_in (c := 6 * t + 1) (by omega) (by omega)) d_L_law_590 ?_
  refine nr_top (y := z1) ((congrArg xs (nI_clamp (by omega))).trans hz1) ?_
  replace hP : va_P D cls (wRo ad ca (P1 u) (Sx u) (G1 u) ao co vo ++ wM am cm P G X) H := by rw [wL_assoc]; exact hP
  replace hD : va_D (LA s) (wRo ad ca (P1 u) (Sx u) (G1 u) ao co vo ++ wM am cm P G X) := by rw [wL_assoc]; exact hD
  refine nr_callvB (va_runV (As := [.int (z1)]) (rest := []) ⟨hx, hb, hml, hown, hts⟩ (hm H.size) ⟨callB_of 1 hts (gTB0 q_M_freeze) rfl hrM.1 hrM.2.1 (htb _ q4) (htb _ q701) hd_M_freeze ⟨by show rmM.frames + 1 ≤ 12; have := hrM.2.2.1; omega, by show 8 + (2 + 11) + rmM.locals ≤ 440; have := hrM.2.2.2; omega⟩, (htb _ q702), (htb _ q703)⟩ ⟨rw_blind, va_recv hK0 (va_P_right hP) (ci := 3) (q0 := 0) rfl rfl, rw_pre hN (va_P_right hP) hKm (va_D_right hD)⟩ rfl rfl hl.1 rfl (lv_room (Nat.le_of_ble_eq_true rfl)) d_L_law_591 ⟨hc.1, hc.2⟩) hP hD hS hA (fun u' H locs hu' hP hD hS => ?_)
  refine lv_aload_n hx hb d_L_law_594 rfl (lv_at hl 3 rfl) ?_
  refine nr_calli (va_runV (As := []) (rest := []) ⟨hx, hb, hml, hown, hts⟩ (c_M_thrown l D am cm (P2 u') (G2 u') (X2 u')) ⟨callB_of 0 hts (gTB0 q_M_thrown) rfl rfl rfl (htb _ q4) (htb _ q658) hd_M_thrown ⟨by decide, by decide⟩, (htb _ q659), (htb _ q660)⟩ ⟨ro_blind, va_recv hK0 (va_P_right hP) (ci := 3) (q0 := 0) rfl rfl, ro_pre hN (va_P_right hP) hKm⟩ rfl rfl hl.1 rfl (lv_room (Nat.le_of_ble_eq_true rfl)) d_L_law_595 ⟨hc.1, hc.2⟩) (fun r9 hr9 => ?_)
  subst hr9
  refine lv_iload hx hb d_L_law_598 (lv_at hl 0 rfl) ?_
  have hf := hfin _ _ hu hu'
  refine nr_icmp_eq (tgt := 605) hx hb (by omega) (by omega) d_L_law_600 (by decide) (fun _ => ?_) (fun h => by exfalso; omega)
  replace hP : va_P D cls (wL ad ca am cm (P1 u) (Sx u) (G1 u) (P2 u') (G2 u') (X2 u') ao co vo) H := by rw [← wL_assoc]; exact hP
  replace hD : va_D (LA s) (wL ad ca am cm (P1 u) (Sx u) (G1 u) (P2 u') (G2 u') (X2 u') ao co vo) := by rw [← wL_assoc]; exact hD
  refine lv_goto (tgt := 1072) hx hb d_L_law_605 (by decide) ?_
  exact kk u u' H locs ls hu hu' hP hD hS (lv_sub hl [1, 2, 3, 4, 5] rfl)
set_option maxHeartbeats 4000000 in
set_option maxRecDepth 100000 in
theorem tn_set {p : Program} {l : Launch} {e : Env} {s : State} {m : MethodId} {below : List Frame} {meth : Method} {c : Code} {b L : Nat} {xs : Nat → Int32} {H : Heap} {locs : List Loc} {cells slots : Nat} {Z : State → Prop} {ls : Array Slot} {D : va_G} {ad am : Nat → Nat} {ca cm : Nat → ClassId} {ao : Nat} {co : ClassId} {vo : Nat → Int64} {P S G X : Nat → Nat → Nat} {t : Nat} {S1 S2 : Type} {P1 Sx G1 : S1 → Nat → Nat → Nat} {P2 G2 X2 : S2 → Nat → Nat → Nat} {rmM : Room} {pw : S1 → Prop} {mc ms kx : Nat} {post2 : S2 → Prop} {z1 z2 z3 : Int32} (C : LC p s m meth c b L xs) (hK : LK D ca cm co s) (ht : 6 * t + 6 ≤ L) (hP : va_P D cls (wL ad ca am cm P S G P G X ao co vo) H) (hD : va_D (LA s) (wL ad ca am cm P S G P G X ao co vo)) (hS : va_S (LA s) s.heap H locs) (hl : lv_has ls 7 (lL b ad am ao t)) (hz1 : xs (6 * t + 1) = z1) (hz2 : xs (6 * t + 2) = z2) (hz3 : xs (6 * t + 3) = z3) (hc : cells + mc ≤ 1065 ∧ slots + ms ≤ 9580) (hw : ∀ sz, Met l y_L_set w_L_set { frames := 11, cells := mc, slots := ms, locals := 410 } (lw_PW [.ref (ad 0), .int (z1), .int (z2), .int (z3)] D (wR ad ca P S G) (tR ca) sz) (rw_Qi (fun (r : Int32) (u : S1) => r = nI kx ∧ pw u) D (wR ad ca P S G) (fun u => wR ad ca (P1 u) (Sx u) (G1 u)) sz) mc ms (va_A (wR ad ca P S G) sz)) (hrM : rmM.cells = 0 ∧ rmM.slots = 0 ∧ rmM.frames ≤ 11 ∧ rmM.locals ≤ 400) (hm : ∀ sz, Met l y_M_set w_M_set rmM (rw_P [.ref (am 0), .int (z1), .int (z2), .int (z3)] D (wM am cm P G X) (tM cm) sz) (rw_Qv post2 D (wM am cm P G X) (fun u => wM am cm (P2 u) (G2 u) (X2 u)) sz) 0 0 (va_A (wM am cm P G X) sz)) (hkx : kx ≤ 4) (hfin : ∀ u u', pw u → post2 u' → X2 u' 0 0 = kx) (kk : ∀ (u : S1) (u' : S2) (H1 : Heap) (locs1 : List Loc) (ls1 : Array Slot), pw u → post2 u' → va_P D cls (wL ad ca am cm (P1 u) (Sx u) (G1 u) (P2 u') (G2 u') (X2 u') ao co vo) H1 → va_D (LA s) (wL ad ca am cm (P1 u) (Sx u) (G1 u) (P2 u') (G2 u') (X2 u') ao co vo) → va_S (LA s) s.heap H1 locs1 → lv_has ls1 7 (lL b ad am ao t) → W p l e room_1 s m #[Value.ref b] below meth c H1 locs1 (cells + mc) (slots + ms) Z (F0 m 1072 ls1 [])) : W p l e room_1 s m #[Value.ref b] below meth c H locs cells slots Z (F0 m 608 ls []) := by
  obtain ⟨hx, hb, hr, hml, hown, hts, hN, hX, hCX, hV, hbl, hlocks, hL⟩ := C
  have htb := hts
  have hA : ∀ q : Nat, s.heap.size ≤ q → LA s q := fun q h => h
  have hbA : ¬ LA s b := Nat.not_le.mpr hbl
  obtain ⟨hK0, hKr, hKo, hK1, hKm⟩ := hK
  refine lv_aload_n hx hb d_L_law_608 rfl (lv_at hl 1 rfl) ?_
  refine lv_aload_n hx hb d_L_law_609 rfl (lv_at hl 0 rfl) ?_
  refine lv_iload hx hb d_L_law_610 (lv_at hl 4 rfl) ?_
  refine nr_iconst hx hb 1 d_L_law_612 (by decide) ?_
  refine nr_iadd hx hb d_L_law_613 ?_
  refine va_sld hx hb hV hbl hbA hS (nI_in (c := 6 * t + 1) (by omega) (by omega)) d_L_law_614 ?_
  refine nr_top (y := z1) ((congrArg xs (nI_clamp (by omega))).trans hz1) ?_
  refine lv_aload_n hx hb d_L_law_615 rfl (lv_at hl 0 rfl) ?_
  refine lv_iload hx hb d_L_law_616 (lv_at hl 4 rfl) ?_
  refine nr_iconst hx hb 2 d_L_law_618 (by decide) ?_
  refine nr_iadd hx hb d_L_law_619 ?_
  refine va_sld hx hb hV hbl hbA hS (nI_in (c := 6 * t + 2) (by omega) (by omega)) d_L_law_620 ?_
  refine nr_top (y := z2) ((congrArg xs (nI_clamp (by omega))).trans hz2) ?_
  refine lv_aload_n hx hb d_L_law_621 rfl (lv_at hl 0 rfl) ?_
  refine lv_iload hx hb d_L_law_622 (lv_at hl 4 rfl) ?_
  refine nr_iconst hx hb 3 d_L_law_624 (by decide) ?_
  refine nr_iadd hx hb d_L_law_625 ?_
  refine va_sld hx hb hV hbl hbA hS (nI_in (c := 6 * t + 3) (by omega) (by omega)) d_L_law_626 ?_
  refine nr_top (y := z3) ((congrArg xs (nI_clamp (by omega))).trans hz3) ?_
  refine nr_callwiA (va_runSW (As := [.ref (ad 0), .int (z1), .int (z2), .int (z3)]) (rest := []) ⟨hx, hb, hml, hown, hts⟩ (hw H.size) ⟨rfl, rfl⟩ ⟨Nat.le_of_ble_eq_true rfl, Nat.le_of_ble_eq_true rfl⟩ (pay_in hts (gTB0 q_L_set)) List.mem_cons_self (htb _ q453) (htb _ q454) (htb _ q0) ⟨hd_L_set.1, hd_L_set.2.1⟩ hd_L_set.2.2 ⟨lw_blind, fun U hU hW => ⟨rfl, by rw [hU], hN.warm hW, tx_law hX hS U hU hW, hCX.warm hW, by rw [hU]; exact va_P_left hP, va_K.moved hW.alike hKr, (va_D_left hD).weaken (fun _ _ _ _ => trivial)⟩⟩ rfl rfl hl.1 rfl (lv_room (Nat.le_of_ble_eq_true rfl)) d_L_law_627 hc) hP hD hS hA (fun r u H locs hu hP hD hS => ?_)
  obtain ⟨rfl, hu⟩ := hu
  refine lv_istore (lv' := [(5, .int (nI kx)), (0, .ref b), (1, .ref (ad 0)), (2, .ref (am 0)), (3, .ref ao), (4, .int (nI (6 * t)))]) hx hb d_L_law_630 hl (by decide) rfl (fun ls hl => ?_)
  refine lv_aload_n hx hb d_L_law_632 rfl (lv_at hl 3 rfl) ?_
  refine lv_aload_n hx hb d_L_law_633 rfl (lv_at hl 1 rfl) ?_
  refine lv_iload hx hb d_L_law_634 (lv_at hl 5 rfl) ?_
  refine nr_iconst hx hb 1 d_L_law_636 (by decide) ?_
  refine nr_iadd hx hb d_L_law_637 ?_
  refine va_sld hx hb hV hbl hbA hS (nI_in (c := 6 * t + 1) (by omega) (by omega)) d_L_law_638 ?_
  refine nr_top (y := z1) ((congrArg xs (nI_clamp (by omega))).trans hz1) ?_
  refine lv_aload_n hx hb d_L_law_639 rfl (lv_at hl 1 rfl) ?_
  refine lv_iload hx hb d_L_law_640 (lv_at hl 5 rfl) ?_
  refine nr_iconst hx hb 2 d_L_law_642 (by decide) ?_
  refine nr_iadd hx hb d_L_law_643 ?_
  refine va_sld hx hb hV hbl hbA hS (nI_in (c := 6 * t + 2) (by omega) (by omega)) d_L_law_644 ?_
  refine nr_top (y := z2) ((congrArg xs (nI_clamp (by omega))).trans hz2) ?_
  refine lv_aload_n hx hb d_L_law_645 rfl (lv_at hl 1 rfl) ?_
  refine lv_iload hx hb d_L_law_646 (lv_at hl 5 rfl) ?_
  refine nr_iconst hx hb 3 d_L_law_648 (by decide) ?_
  refine nr_iadd hx hb d_L_law_649 ?_
  refine va_sld hx hb hV hbl hbA hS (nI_in (c := 6 * t + 3) (by omega) (by omega)) d_L_law_650 ?_
  refine nr_top (y := z3) ((congrArg xs (nI_clamp (by omega))).trans hz3) ?_
  replace hP : va_P D cls (wRo ad ca (P1 u) (Sx u) (G1 u) ao co vo ++ wM am cm P G X) H := by rw [wL_assoc]; exact hP
  replace hD : va_D (LA s) (wRo ad ca (P1 u) (Sx u) (G1 u) ao co vo ++ wM am cm P G X) := by rw [wL_assoc]; exact hD
  refine nr_callvB (va_runV (As := [.int (z1), .int (z2), .int (z3)]) (rest := []) ⟨hx, hb, hml, hown, hts⟩ (hm H.size) ⟨callB_of 3 hts (gTB0 q_M_set) rfl hrM.1 hrM.2.1 (htb _ q4) (htb _ q705) hd_M_set ⟨by show rmM.frames + 1 ≤ 12; have := hrM.2.2.1; omega, by show 8 + (5 + 11) + rmM.locals ≤ 440; have := hrM.2.2.2; omega⟩, (htb _ q706), (htb _ q707)⟩ ⟨rw_blind, va_recv hK0 (va_P_right hP) (ci := 3) (q0 := 0) rfl rfl, rw_pre hN (va_P_right hP) hKm (va_D_right hD)⟩ rfl rfl hl.1 rfl (lv_room (Nat.le_of_ble_eq_true rfl)) d_L_law_651 ⟨hc.1, hc.2⟩) hP hD hS hA (fun u' H locs hu' hP hD hS => ?_)
  refine lv_aload_n hx hb d_L_law_654 rfl (lv_at hl 3 rfl) ?_
  refine nr_calli (va_runV (As := []) (rest := []) ⟨hx, hb, hml, hown, hts⟩ (c_M_thrown l D am cm (P2 u') (G2 u') (X2 u')) ⟨callB_of 0 hts (gTB0 q_M_thrown) rfl rfl rfl (htb _ q4) (htb _ q658) hd_M_thrown ⟨by decide, by decide⟩, (htb _ q659), (htb _ q660)⟩ ⟨ro_blind, va_recv hK0 (va_P_right hP) (ci := 3) (q0 := 0) rfl rfl, ro_pre hN (va_P_right hP) hKm⟩ rfl rfl hl.1 rfl (lv_room (Nat.le_of_ble_eq_true rfl)) d_L_law_655 ⟨hc.1, hc.2⟩) (fun r9 hr9 => ?_)
  subst hr9
  refine lv_iload hx hb d_L_law_658 (lv_at hl 0 rfl) ?_
  have hf := hfin _ _ hu hu'
  refine nr_icmp_eq (tgt := 665) hx hb (by omega) (by omega) d_L_law_660 (by decide) (fun _ => ?_) (fun h => by exfalso; omega)
  replace hP : va_P D cls (wL ad ca am cm (P1 u) (Sx u) (G1 u) (P2 u') (G2 u') (X2 u') ao co vo) H := by rw [← wL_assoc]; exact hP
  replace hD : va_D (LA s) (wL ad ca am cm (P1 u) (Sx u) (G1 u) (P2 u') (G2 u') (X2 u') ao co vo) := by rw [← wL_assoc]; exact hD
  refine lv_goto (tgt := 1072) hx hb d_L_law_665 (by decide) ?_
  exact kk u u' H locs ls hu hu' hP hD hS (lv_sub hl [1, 2, 3, 4, 5] rfl)
set_option maxHeartbeats 4000000 in
set_option maxRecDepth 100000 in
theorem tn_solve {p : Program} {l : Launch} {e : Env} {s : State} {m : MethodId} {below : List Frame} {meth : Method} {c : Code} {b L : Nat} {xs : Nat → Int32} {H : Heap} {locs : List Loc} {cells slots : Nat} {Z : State → Prop} {ls : Array Slot} {D : va_G} {ad am : Nat → Nat} {ca cm : Nat → ClassId} {ao : Nat} {co : ClassId} {vo : Nat → Int64} {P S G X : Nat → Nat → Nat} {t : Nat} {S1 S2 : Type} {P1 Sx G1 : S1 → Nat → Nat → Nat} {P2 G2 X2 : S2 → Nat → Nat → Nat} {rmM : Room} {pw : S1 → Prop} {mc ms kx : Nat} {post2 : Int32 → S2 → Prop} {v1 : S1 → Nat → Int64} {z1 : Int32} (C : LC p s m meth c b L xs) (hK : LK D ca cm co s) (ht : 6 * t + 6 ≤ L) (hP : va_P D cls (wL ad ca am cm P S G P G X ao co vo) H) (hD : va_D (LA s) (wL ad ca am cm P S G P G X ao co vo)) (hS : va_S (LA s) s.heap H locs) (hl : lv_has ls 7 (lL b ad am ao t)) (hz1 : xs (6 * t + 1) = z1) (hc : cells + mc ≤ 1065 ∧ slots + ms ≤ 9580) (hw : ∀ sz, Met l y_L_solve w_L_solve { frames := 11, cells := mc, slots := ms, locals := 410 } (lw_PW [.ref (ad 0), .int (z1), .ref ao] D (wRo ad ca P S G ao co vo) (tRo ca co) sz) (rw_Qi (fun (r : Int32) (u : S1) => r = nI kx ∧ pw u) D (wRo ad ca P S G ao co vo) (fun u => wRo ad ca (P1 u) (Sx u) (G1 u) ao co (v1 u)) sz) mc ms (va_A (wRo ad ca P S G ao co vo) sz)) (hrM : rmM.cells = 0 ∧ rmM.slots = 0 ∧ rmM.frames ≤ 11 ∧ rmM.locals ≤ 400) (hm : ∀ sz, Met l y_M_solve w_M_solve rmM (rw_P [.ref (am 0), .int (z1)] D (wM am cm P G X) (tM cm) sz) (rw_Qi post2 D (wM am cm P G X) (fun u => wM am cm (P2 u) (G2 u) (X2 u)) sz) 0 0 (va_A (wM am cm P G X) sz)) (hkx : kx ≤ 4) (hfin : ∀ u r' u', pw u → post2 r' u' → X2 u' 0 0 = kx ∧ (kx = 0 → v1 u 0 = r'.toInt64)) (kk : ∀ (u : S1) (r' : Int32) (u' : S2) (H1 : Heap) (locs1 : List Loc) (ls1 : Array Slot), pw u → post2 r' u' → va_P D cls (wL ad ca am cm (P1 u) (Sx u) (G1 u) (P2 u') (G2 u') (X2 u') ao co (v1 u)) H1 → va_D (LA s) (wL ad ca am cm (P1 u) (Sx u) (G1 u) (P2 u') (G2 u') (X2 u') ao co (v1 u)) → va_S (LA s) s.heap H1 locs1 → lv_has ls1 7 (lL b ad am ao t) → W p l e room_1 s m #[Value.ref b] below meth c H1 locs1 (cells + mc) (slots + ms) Z (F0 m 1072 ls1 [])) : W p l e room_1 s m #[Value.ref b] below meth c H locs cells slots Z (F0 m 668 ls []) := by
  obtain ⟨hx, hb, hr, hml, hown, hts, hN, hX, hCX, hV, hbl, hlocks, hL⟩ := C
  have htb := hts
  have hA : ∀ q : Nat, s.heap.size ≤ q → LA s q := fun q h => h
  have hbA : ¬ LA s b := Nat.not_le.mpr hbl
  obtain ⟨hK0, hKr, hKo, hK1, hKm⟩ := hK
  refine lv_aload_n hx hb d_L_law_668 rfl (lv_at hl 1 rfl) ?_
  refine lv_aload_n hx hb d_L_law_669 rfl (lv_at hl 0 rfl) ?_
  refine lv_iload hx hb d_L_law_670 (lv_at hl 4 rfl) ?_
  refine nr_iconst hx hb 1 d_L_law_672 (by decide) ?_
  refine nr_iadd hx hb d_L_law_673 ?_
  refine va_sld hx hb hV hbl hbA hS (nI_in (c := 6 * t + 1) (by omega) (by omega)) d_L_law_674 ?_
  refine nr_top (y := z1) ((congrArg xs (nI_clamp (by omega))).trans hz1) ?_
  refine lv_aload_n hx hb d_L_law_675 rfl (lv_at hl 3 rfl) ?_
  replace hP : va_P D cls (wRo ad ca P S G ao co vo ++ wM am cm P G X) H := by rw [wL_assoc]; exact hP
  replace hD : va_D (LA s) (wRo ad ca P S G ao co vo ++ wM am cm P G X) := by rw [wL_assoc]; exact hD
  refine nr_callwiA (va_runSW (As := [.ref (ad 0), .int (z1), .ref ao]) (rest := []) ⟨hx, hb, hml, hown, hts⟩ (hw H.size) ⟨rfl, rfl⟩ ⟨Nat.le_of_ble_eq_true rfl, Nat.le_of_ble_eq_true rfl⟩ (pay_in hts (gTB0 q_L_solve)) List.mem_cons_self (htb _ q460) (htb _ q461) (htb _ q0) ⟨hd_L_solve.1, hd_L_solve.2.1⟩ hd_L_solve.2.2 ⟨lw_blind, fun U hU hW => ⟨rfl, by rw [hU], hN.warm hW, tx_law hX hS U hU hW, hCX.warm hW, by rw [hU]; exact va_P_left hP, va_K.moved hW.alike hKo, (va_D_left hD).weaken (fun _ _ _ _ => trivial)⟩⟩ rfl rfl hl.1 rfl (lv_room (Nat.le_of_ble_eq_true rfl)) d_L_law_676 hc) hP hD hS hA (fun r u H locs hu hP hD hS => ?_)
  obtain ⟨rfl, hu⟩ := hu
  refine lv_istore (lv' := [(5, .int (nI kx)), (0, .ref b), (1, .ref (ad 0)), (2, .ref (am 0)), (3, .ref ao), (4, .int (nI (6 * t)))]) hx hb d_L_law_679 hl (by decide) rfl (fun ls hl => ?_)
  refine lv_aload_n hx hb d_L_law_681 rfl (lv_at hl 3 rfl) ?_
  refine lv_aload_n hx hb d_L_law_682 rfl (lv_at hl 1 rfl) ?_
  refine lv_iload hx hb d_L_law_683 (lv_at hl 5 rfl) ?_
  refine nr_iconst hx hb 1 d_L_law_685 (by decide) ?_
  refine nr_iadd hx hb d_L_law_686 ?_
  refine va_sld hx hb hV hbl hbA hS (nI_in (c := 6 * t + 1) (by omega) (by omega)) d_L_law_687 ?_
  refine nr_top (y := z1) ((congrArg xs (nI_clamp (by omega))).trans hz1) ?_
  refine nr_callwiB (va_runV (As := [.int (z1)]) (rest := []) ⟨hx, hb, hml, hown, hts⟩ (hm H.size) ⟨callB_of 1 hts (gTB0 q_M_solve) rfl hrM.1 hrM.2.1 (htb _ q4) (htb _ q709) hd_M_solve ⟨by show rmM.frames + 1 ≤ 12; have := hrM.2.2.1; omega, by show 8 + (4 + 11) + rmM.locals ≤ 440; have := hrM.2.2.2; omega⟩, (htb _ q710), (htb _ q711)⟩ ⟨rw_blind, va_recv hK0 (va_P_right hP) (ci := 3) (q0 := 0) rfl rfl, rw_pre hN (va_P_right hP) hKm (va_D_right hD)⟩ rfl rfl hl.1 rfl (lv_room (Nat.le_of_ble_eq_true rfl)) d_L_law_688 ⟨hc.1, hc.2⟩) hP hD hS hA (fun r' u' H locs hu' hP hD hS => ?_)
  refine lv_istore (lv' := [(6, .int r'), (5, .int (nI kx)), (0, .ref b), (1, .ref (ad 0)), (2, .ref (am 0)), (3, .ref ao), (4, .int (nI (6 * t)))]) hx hb d_L_law_691 hl (by decide) rfl (fun ls hl => ?_)
  refine lv_aload_n hx hb d_L_law_693 rfl (lv_at hl 4 rfl) ?_
  refine nr_calli (va_runV (As := []) (rest := []) ⟨hx, hb, hml, hown, hts⟩ (c_M_thrown l D am cm (P2 u') (G2 u') (X2 u')) ⟨callB_of 0 hts (gTB0 q_M_thrown) rfl rfl rfl (htb _ q4) (htb _ q658) hd_M_thrown ⟨by decide, by decide⟩, (htb _ q659), (htb _ q660)⟩ ⟨ro_blind, va_recv hK0 (va_P_right hP) (ci := 3) (q0 := 0) rfl rfl, ro_pre hN (va_P_right hP) hKm⟩ rfl rfl hl.1 rfl (lv_room (Nat.le_of_ble_eq_true rfl)) d_L_law_694 ⟨hc.1, hc.2⟩) (fun r9 hr9 => ?_)
  subst hr9
  refine lv_iload hx hb d_L_law_697 (lv_at hl 1 rfl) ?_
  have hf := hfin _ _ _ hu hu'
  refine nr_icmp_eq (tgt := 704) hx hb (by omega) (by omega) d_L_law_699 (by decide) (fun _ => ?_) (fun h => by exfalso; omega)
  replace hP : va_P D cls (wL ad ca am cm (P1 u) (Sx u) (G1 u) (P2 u') (G2 u') (X2 u') ao co (v1 u)) H := by rw [← wL_assoc]; exact hP
  replace hD : va_D (LA s) (wL ad ca am cm (P1 u) (Sx u) (G1 u) (P2 u') (G2 u') (X2 u') ao co (v1 u)) := by rw [← wL_assoc]; exact hD
  refine lv_iload hx hb d_L_law_704 (lv_at hl 1 rfl) ?_
  refine nr_if_ne (tgt := 721) hx hb (by omega) d_L_law_706 (by decide) (fun _ => ?_) (fun h0 => ?_)
  · refine lv_goto (tgt := 1072) hx hb d_L_law_721 (by decide) ?_
    exact kk u r' u' H locs ls hu hu' hP hD hS (lv_sub hl [2, 3, 4, 5, 6] rfl)
  · refine lv_aload_n hx hb d_L_law_709 rfl (lv_at hl 5 rfl) ?_
    refine nr_iconst hx hb 0 d_L_law_710 (by decide) ?_
    refine va_lald hx hb hK1 (va_P_left (va_P_right hP)) 0 0 rfl rfl (nI_in (by decide) (by decide)) d_L_law_711 ?_
    refine lv_iload hx hb d_L_law_712 (lv_at hl 0 rfl) ?_
    refine lv_i2l (v := r'.toInt64) hx hb d_L_law_714 rfl ?_
    refine lv_lcmp_eq hx hb (hf.2 h0) d_L_law_715 ?_
    refine lv_if_eq (tgt := 721) hx hb d_L_law_716 (by decide) (fun _ => ?_) (fun h => absurd rfl h)
    refine lv_goto (tgt := 1072) hx hb d_L_law_721 (by decide) ?_
    exact kk u r' u' H locs ls hu hu' hP hD hS (lv_sub hl [2, 3, 4, 5, 6] rfl)
set_option maxHeartbeats 4000000 in
set_option maxRecDepth 100000 in
theorem tn_solved {p : Program} {l : Launch} {e : Env} {s : State} {m : MethodId} {below : List Frame} {meth : Method} {c : Code} {b L : Nat} {xs : Nat → Int32} {H : Heap} {locs : List Loc} {cells slots : Nat} {Z : State → Prop} {ls : Array Slot} {D : va_G} {ad am : Nat → Nat} {ca cm : Nat → ClassId} {ao : Nat} {co : ClassId} {vo : Nat → Int64} {P S G X : Nat → Nat → Nat} {t : Nat} {S1 S2 : Type} {P1 Sx G1 : S1 → Nat → Nat → Nat} {P2 G2 X2 : S2 → Nat → Nat → Nat} {rmM : Room} {pw : S1 → Prop} {mc ms kx : Nat} {post2 : Int32 → S2 → Prop} {v1 : S1 → Nat → Int64} {z1 : Int32} (C : LC p s m meth c b L xs) (hK : LK D ca cm co s) (ht : 6 * t + 6 ≤ L) (hP : va_P D cls (wL ad ca am cm P S G P G X ao co vo) H) (hD : va_D (LA s) (wL ad ca am cm P S G P G X ao co vo)) (hS : va_S (LA s) s.heap H locs) (hl : lv_has ls 7 (lL b ad am ao t)) (hz1 : xs (6 * t + 1) = z1) (hc : cells + mc ≤ 1065 ∧ slots + ms ≤ 9580) (hw : ∀ sz, Met l y_L_solved w_L_solved { frames := 11, cells := mc, slots := ms, locals := 410 } (lw_PW [.ref (ad 0), .int (z1), .ref ao] D (wRo ad ca P S G ao co vo) (tRo ca co) sz) (rw_Qi (fun (r : Int32) (u : S1) => r = nI kx ∧ pw u) D (wRo ad ca P S G ao co vo) (fun u => wRo ad ca (P1 u) (Sx u) (G1 u) ao co (v1 u)) sz) mc ms (va_A (wRo ad ca P S G ao co vo) sz)) (hrM : rmM.cells = 0 ∧ rmM.slots = 0 ∧ rmM.frames ≤ 11 ∧ rmM.locals ≤ 400) (hm : ∀ sz, Met l y_M_solved w_M_solved rmM (rw_P [.ref (am 0), .int (z1)] D (wM am cm P G X) (tM cm) sz) (rw_Qi post2 D (wM am cm P G X) (fun u => wM am cm (P2 u) (G2 u) (X2 u)) sz) 0 0 (va_A (wM am cm P G X) sz)) (hkx : kx ≤ 4) (hfin : ∀ u r' u', pw u → post2 r' u' → X2 u' 0 0 = kx ∧ (kx = 0 → v1 u 0 = r'.toInt64)) (kk : ∀ (u : S1) (r' : Int32) (u' : S2) (H1 : Heap) (locs1 : List Loc) (ls1 : Array Slot), pw u → post2 r' u' → va_P D cls (wL ad ca am cm (P1 u) (Sx u) (G1 u) (P2 u') (G2 u') (X2 u') ao co (v1 u)) H1 → va_D (LA s) (wL ad ca am cm (P1 u) (Sx u) (G1 u) (P2 u') (G2 u') (X2 u') ao co (v1 u)) → va_S (LA s) s.heap H1 locs1 → lv_has ls1 7 (lL b ad am ao t) → W p l e room_1 s m #[Value.ref b] below meth c H1 locs1 (cells + mc) (slots + ms) Z (F0 m 1072 ls1 [])) : W p l e room_1 s m #[Value.ref b] below meth c H locs cells slots Z (F0 m 724 ls []) := by
  obtain ⟨hx, hb, hr, hml, hown, hts, hN, hX, hCX, hV, hbl, hlocks, hL⟩ := C
  have htb := hts
  have hA : ∀ q : Nat, s.heap.size ≤ q → LA s q := fun q h => h
  have hbA : ¬ LA s b := Nat.not_le.mpr hbl
  obtain ⟨hK0, hKr, hKo, hK1, hKm⟩ := hK
  refine lv_aload_n hx hb d_L_law_724 rfl (lv_at hl 1 rfl) ?_
  refine lv_aload_n hx hb d_L_law_725 rfl (lv_at hl 0 rfl) ?_
  refine lv_iload hx hb d_L_law_726 (lv_at hl 4 rfl) ?_
  refine nr_iconst hx hb 1 d_L_law_728 (by decide) ?_
  refine nr_iadd hx hb d_L_law_729 ?_
  refine va_sld hx hb hV hbl hbA hS (nI_in (c := 6 * t + 1) (by omega) (by omega)) d_L_law_730 ?_
  refine nr_top (y := z1) ((congrArg xs (nI_clamp (by omega))).trans hz1) ?_
  refine lv_aload_n hx hb d_L_law_731 rfl (lv_at hl 3 rfl) ?_
  replace hP : va_P D cls (wRo ad ca P S G ao co vo ++ wM am cm P G X) H := by rw [wL_assoc]; exact hP
  replace hD : va_D (LA s) (wRo ad ca P S G ao co vo ++ wM am cm P G X) := by rw [wL_assoc]; exact hD
  refine nr_callwiA (va_runSW (As := [.ref (ad 0), .int (z1), .ref ao]) (rest := []) ⟨hx, hb, hml, hown, hts⟩ (hw H.size) ⟨rfl, rfl⟩ ⟨Nat.le_of_ble_eq_true rfl, Nat.le_of_ble_eq_true rfl⟩ (pay_in hts (gTB0 q_L_solved)) List.mem_cons_self (htb _ q510) (htb _ q511) (htb _ q0) ⟨hd_L_solved.1, hd_L_solved.2.1⟩ hd_L_solved.2.2 ⟨lw_blind, fun U hU hW => ⟨rfl, by rw [hU], hN.warm hW, tx_law hX hS U hU hW, hCX.warm hW, by rw [hU]; exact va_P_left hP, va_K.moved hW.alike hKo, (va_D_left hD).weaken (fun _ _ _ _ => trivial)⟩⟩ rfl rfl hl.1 rfl (lv_room (Nat.le_of_ble_eq_true rfl)) d_L_law_732 hc) hP hD hS hA (fun r u H locs hu hP hD hS => ?_)
  obtain ⟨rfl, hu⟩ := hu
  refine lv_istore (lv' := [(5, .int (nI kx)), (0, .ref b), (1, .ref (ad 0)), (2, .ref (am 0)), (3, .ref ao), (4, .int (nI (6 * t)))]) hx hb d_L_law_735 hl (by decide) rfl (fun ls hl => ?_)
  refine lv_aload_n hx hb d_L_law_737 rfl (lv_at hl 3 rfl) ?_
  refine lv_aload_n hx hb d_L_law_738 rfl (lv_at hl 1 rfl) ?_
  refine lv_iload hx hb d_L_law_739 (lv_at hl 5 rfl) ?_
  refine nr_iconst hx hb 1 d_L_law_741 (by decide) ?_
  refine nr_iadd hx hb d_L_law_742 ?_
  refine va_sld hx hb hV hbl hbA hS (nI_in (c := 6 * t + 1) (by omega) (by omega)) d_L_law_743 ?_
  refine nr_top (y := z1) ((congrArg xs (nI_clamp (by omega))).trans hz1) ?_
  refine nr_callwiB (va_runV (As := [.int (z1)]) (rest := []) ⟨hx, hb, hml, hown, hts⟩ (hm H.size) ⟨callB_of 1 hts (gTB0 q_M_solved) rfl hrM.1 hrM.2.1 (htb _ q4) (htb _ q746) hd_M_solved ⟨by show rmM.frames + 1 ≤ 12; have := hrM.2.2.1; omega, by show 8 + (2 + 11) + rmM.locals ≤ 440; have := hrM.2.2.2; omega⟩, (htb _ q747), (htb _ q748)⟩ ⟨rw_blind, va_recv hK0 (va_P_right hP) (ci := 3) (q0 := 0) rfl rfl, rw_pre hN (va_P_right hP) hKm (va_D_right hD)⟩ rfl rfl hl.1 rfl (lv_room (Nat.le_of_ble_eq_true rfl)) d_L_law_744 ⟨hc.1, hc.2⟩) hP hD hS hA (fun r' u' H locs hu' hP hD hS => ?_)
  refine lv_istore (lv' := [(6, .int r'), (5, .int (nI kx)), (0, .ref b), (1, .ref (ad 0)), (2, .ref (am 0)), (3, .ref ao), (4, .int (nI (6 * t)))]) hx hb d_L_law_747 hl (by decide) rfl (fun ls hl => ?_)
  refine lv_aload_n hx hb d_L_law_749 rfl (lv_at hl 4 rfl) ?_
  refine nr_calli (va_runV (As := []) (rest := []) ⟨hx, hb, hml, hown, hts⟩ (c_M_thrown l D am cm (P2 u') (G2 u') (X2 u')) ⟨callB_of 0 hts (gTB0 q_M_thrown) rfl rfl rfl (htb _ q4) (htb _ q658) hd_M_thrown ⟨by decide, by decide⟩, (htb _ q659), (htb _ q660)⟩ ⟨ro_blind, va_recv hK0 (va_P_right hP) (ci := 3) (q0 := 0) rfl rfl, ro_pre hN (va_P_right hP) hKm⟩ rfl rfl hl.1 rfl (lv_room (Nat.le_of_ble_eq_true rfl)) d_L_law_750 ⟨hc.1, hc.2⟩) (fun r9 hr9 => ?_)
  subst hr9
  refine lv_iload hx hb d_L_law_753 (lv_at hl 1 rfl) ?_
  have hf := hfin _ _ _ hu hu'
  refine nr_icmp_eq (tgt := 760) hx hb (by omega) (by omega) d_L_law_755 (by decide) (fun _ => ?_) (fun h => by exfalso; omega)
  replace hP : va_P D cls (wL ad ca am cm (P1 u) (Sx u) (G1 u) (P2 u') (G2 u') (X2 u') ao co (v1 u)) H := by rw [← wL_assoc]; exact hP
  replace hD : va_D (LA s) (wL ad ca am cm (P1 u) (Sx u) (G1 u) (P2 u') (G2 u') (X2 u') ao co (v1 u)) := by rw [← wL_assoc]; exact hD
  refine lv_iload hx hb d_L_law_760 (lv_at hl 1 rfl) ?_
  refine nr_if_ne (tgt := 777) hx hb (by omega) d_L_law_762 (by decide) (fun _ => ?_) (fun h0 => ?_)
  · refine lv_goto (tgt := 1072) hx hb d_L_law_777 (by decide) ?_
    exact kk u r' u' H locs ls hu hu' hP hD hS (lv_sub hl [2, 3, 4, 5, 6] rfl)
  · refine lv_aload_n hx hb d_L_law_765 rfl (lv_at hl 5 rfl) ?_
    refine nr_iconst hx hb 0 d_L_law_766 (by decide) ?_
    refine va_lald hx hb hK1 (va_P_left (va_P_right hP)) 0 0 rfl rfl (nI_in (by decide) (by decide)) d_L_law_767 ?_
    refine lv_iload hx hb d_L_law_768 (lv_at hl 0 rfl) ?_
    refine lv_i2l (v := r'.toInt64) hx hb d_L_law_770 rfl ?_
    refine lv_lcmp_eq hx hb (hf.2 h0) d_L_law_771 ?_
    refine lv_if_eq (tgt := 777) hx hb d_L_law_772 (by decide) (fun _ => ?_) (fun h => absurd rfl h)
    refine lv_goto (tgt := 1072) hx hb d_L_law_777 (by decide) ?_
    exact kk u r' u' H locs ls hu hu' hP hD hS (lv_sub hl [2, 3, 4, 5, 6] rfl)
set_option maxHeartbeats 4000000 in
set_option maxRecDepth 100000 in
theorem tn_swap {p : Program} {l : Launch} {e : Env} {s : State} {m : MethodId} {below : List Frame} {meth : Method} {c : Code} {b L : Nat} {xs : Nat → Int32} {H : Heap} {locs : List Loc} {cells slots : Nat} {Z : State → Prop} {ls : Array Slot} {D : va_G} {ad am : Nat → Nat} {ca cm : Nat → ClassId} {ao : Nat} {co : ClassId} {vo : Nat → Int64} {P S G X : Nat → Nat → Nat} {t : Nat} {S1 S2 : Type} {P1 Sx G1 : S1 → Nat → Nat → Nat} {P2 G2 X2 : S2 → Nat → Nat → Nat} {rmM : Room} {pw : S1 → Prop} {mc ms kx : Nat} {post2 : S2 → Prop} {z1 z2 z3 : Int32} (C : LC p s m meth c b L xs) (hK : LK D ca cm co s) (ht : 6 * t + 6 ≤ L) (hP : va_P D cls (wL ad ca am cm P S G P G X ao co vo) H) (hD : va_D (LA s) (wL ad ca am cm P S G P G X ao co vo)) (hS : va_S (LA s) s.heap H locs) (hl : lv_has ls 7 (lL b ad am ao t)) (hz1 : xs (6 * t + 1) = z1) (hz2 : xs (6 * t + 2) = z2) (hz3 : xs (6 * t + 3) = z3) (hc : cells + mc ≤ 1065 ∧ slots + ms ≤ 9580) (hw : ∀ sz, Met l y_L_swap w_L_swap { frames := 11, cells := mc, slots := ms, locals := 410 } (lw_PW [.ref (ad 0), .int (z1), .int (z2), .int (z3)] D (wR ad ca P S G) (tR ca) sz) (rw_Qi (fun (r : Int32) (u : S1) => r = nI kx ∧ pw u) D (wR ad ca P S G) (fun u => wR ad ca (P1 u) (Sx u) (G1 u)) sz) mc ms (va_A (wR ad ca P S G) sz)) (hrM : rmM.cells = 0 ∧ rmM.slots = 0 ∧ rmM.frames ≤ 11 ∧ rmM.locals ≤ 400) (hm : ∀ sz, Met l y_M_swap w_M_swap rmM (rw_P [.ref (am 0), .int (z1), .int (z2), .int (z3)] D (wM am cm P G X) (tM cm) sz) (rw_Qv post2 D (wM am cm P G X) (fun u => wM am cm (P2 u) (G2 u) (X2 u)) sz) 0 0 (va_A (wM am cm P G X) sz)) (hkx : kx ≤ 4) (hfin : ∀ u u', pw u → post2 u' → X2 u' 0 0 = kx) (kk : ∀ (u : S1) (u' : S2) (H1 : Heap) (locs1 : List Loc) (ls1 : Array Slot), pw u → post2 u' → va_P D cls (wL ad ca am cm (P1 u) (Sx u) (G1 u) (P2 u') (G2 u') (X2 u') ao co vo) H1 → va_D (LA s) (wL ad ca am cm (P1 u) (Sx u) (G1 u) (P2 u') (G2 u') (X2 u') ao co vo) → va_S (LA s) s.heap H1 locs1 → lv_has ls1 7 (lL b ad am ao t) → W p l e room_1 s m #[Value.ref b] below meth c H1 locs1 (cells + mc) (slots + ms) Z (F0 m 1072 ls1 [])) : W p l e room_1 s m #[Value.ref b] below meth c H locs cells slots Z (F0 m 780 ls []) := by
  obtain ⟨hx, hb, hr, hml, hown, hts, hN, hX, hCX, hV, hbl, hlocks, hL⟩ := C
  have htb := hts
  have hA : ∀ q : Nat, s.heap.size ≤ q → LA s q := fun q h => h
  have hbA : ¬ LA s b := Nat.not_le.mpr hbl
  obtain ⟨hK0, hKr, hKo, hK1, hKm⟩ := hK
  refine lv_aload_n hx hb d_L_law_780 rfl (lv_at hl 1 rfl) ?_
  refine lv_aload_n hx hb d_L_law_781 rfl (lv_at hl 0 rfl) ?_
  refine lv_iload hx hb d_L_law_782 (lv_at hl 4 rfl) ?_
  refine nr_iconst hx hb 1 d_L_law_784 (by decide) ?_
  refine nr_iadd hx hb d_L_law_785 ?_
  refine va_sld hx hb hV hbl hbA hS (nI_in (c := 6 * t + 1) (by omega) (by omega)) d_L_law_786 ?_
  refine nr_top (y := z1) ((congrArg xs (nI_clamp (by omega))).trans hz1) ?_
  refine lv_aload_n hx hb d_L_law_787 rfl (lv_at hl 0 rfl) ?_
  refine lv_iload hx hb d_L_law_788 (lv_at hl 4 rfl) ?_
  refine nr_iconst hx hb 2 d_L_law_790 (by decide) ?_
  refine nr_iadd hx hb d_L_law_791 ?_
  refine va_sld hx hb hV hbl hbA hS (nI_in (c := 6 * t + 2) (by omega) (by omega)) d_L_law_792 ?_
  refine nr_top (y := z2) ((congrArg xs (nI_clamp (by omega))).trans hz2) ?_
  refine lv_aload_n hx hb d_L_law_793 rfl (lv_at hl 0 rfl) ?_
  refine lv_iload hx hb d_L_law_794 (lv_at hl 4 rfl) ?_
  refine nr_iconst hx hb 3 d_L_law_796 (by decide) ?_
  refine nr_iadd hx hb d_L_law_797 ?_
  refine va_sld hx hb hV hbl hbA hS (nI_in (c := 6 * t + 3) (by omega) (by omega)) d_L_law_798 ?_
  refine nr_top (y := z3) ((congrArg xs (nI_clamp (by omega))).trans hz3) ?_
  refine nr_callwiA (va_runSW (As := [.ref (ad 0), .int (z1), .int (z2), .int (z3)]) (rest := []) ⟨hx, hb, hml, hown, hts⟩ (hw H.size) ⟨rfl, rfl⟩ ⟨Nat.le_of_ble_eq_true rfl, Nat.le_of_ble_eq_true rfl⟩ (pay_in hts (gTB0 q_L_swap)) List.mem_cons_self (htb _ q517) (htb _ q518) (htb _ q0) ⟨hd_L_swap.1, hd_L_swap.2.1⟩ hd_L_swap.2.2 ⟨lw_blind, fun U hU hW => ⟨rfl, by rw [hU], hN.warm hW, tx_law hX hS U hU hW, hCX.warm hW, by rw [hU]; exact va_P_left hP, va_K.moved hW.alike hKr, (va_D_left hD).weaken (fun _ _ _ _ => trivial)⟩⟩ rfl rfl hl.1 rfl (lv_room (Nat.le_of_ble_eq_true rfl)) d_L_law_799 hc) hP hD hS hA (fun r u H locs hu hP hD hS => ?_)
  obtain ⟨rfl, hu⟩ := hu
  refine lv_istore (lv' := [(5, .int (nI kx)), (0, .ref b), (1, .ref (ad 0)), (2, .ref (am 0)), (3, .ref ao), (4, .int (nI (6 * t)))]) hx hb d_L_law_802 hl (by decide) rfl (fun ls hl => ?_)
  refine lv_aload_n hx hb d_L_law_804 rfl (lv_at hl 3 rfl) ?_
  refine lv_aload_n hx hb d_L_law_805 rfl (lv_at hl 1 rfl) ?_
  refine lv_iload hx hb d_L_law_806 (lv_at hl 5 rfl) ?_
  refine nr_iconst hx hb 1 d_L_law_808 (by decide) ?_
  refine nr_iadd hx hb d_L_law_809 ?_
  refine va_sld hx hb hV hbl hbA hS (nI_in (c := 6 * t + 1) (by omega) (by omega)) d_L_law_810 ?_
  refine nr_top (y := z1) ((congrArg xs (nI_clamp (by omega))).trans hz1) ?_
  refine lv_aload_n hx hb d_L_law_811 rfl (lv_at hl 1 rfl) ?_
  refine lv_iload hx hb d_L_law_812 (lv_at hl 5 rfl) ?_
  refine nr_iconst hx hb 2 d_L_law_814 (by decide) ?_
  refine nr_iadd hx hb d_L_law_815 ?_
  refine va_sld hx hb hV hbl hbA hS (nI_in (c := 6 * t + 2) (by omega) (by omega)) d_L_law_816 ?_
  refine nr_top (y := z2) ((congrArg xs (nI_clamp (by omega))).trans hz2) ?_
  refine lv_aload_n hx hb d_L_law_817 rfl (lv_at hl 1 rfl) ?_
  refine lv_iload hx hb d_L_law_818 (lv_at hl 5 rfl) ?_
  refine nr_iconst hx hb 3 d_L_law_820 (by decide) ?_
  refine nr_iadd hx hb d_L_law_821 ?_
  refine va_sld hx hb hV hbl hbA hS (nI_in (c := 6 * t + 3) (by omega) (by omega)) d_L_law_822 ?_
  refine nr_top (y := z3) ((congrArg xs (nI_clamp (by omega))).trans hz3) ?_
  replace hP : va_P D cls (wRo ad ca (P1 u) (Sx u) (G1 u) ao co vo ++ wM am cm P G X) H := by rw [wL_assoc]; exact hP
  replace hD : va_D (LA s) (wRo ad ca (P1 u) (Sx u) (G1 u) ao co vo ++ wM am cm P G X) := by rw [wL_assoc]; exact hD
  refine nr_callvB (va_runV (As := [.int (z1), .int (z2), .int (z3)]) (rest := []) ⟨hx, hb, hml, hown, hts⟩ (hm H.size) ⟨callB_of 3 hts (gTB0 q_M_swap) rfl hrM.1 hrM.2.1 (htb _ q4) (htb _ q750) hd_M_swap ⟨by show rmM.frames + 1 ≤ 12; have := hrM.2.2.1; omega, by show 8 + (7 + 11) + rmM.locals ≤ 440; have := hrM.2.2.2; omega⟩, (htb _ q751), (htb _ q752)⟩ ⟨rw_blind, va_recv hK0 (va_P_right hP) (ci := 3) (q0 := 0) rfl rfl, rw_pre hN (va_P_right hP) hKm (va_D_right hD)⟩ rfl rfl hl.1 rfl (lv_room (Nat.le_of_ble_eq_true rfl)) d_L_law_823 ⟨hc.1, hc.2⟩) hP hD hS hA (fun u' H locs hu' hP hD hS => ?_)
  refine lv_aload_n hx hb d_L_law_826 rfl (lv_at hl 3 rfl) ?_
  refine nr_calli (va_runV (As := []) (rest := []) ⟨hx, hb, hml, hown, hts⟩ (c_M_thrown l D am cm (P2 u') (G2 u') (X2 u')) ⟨callB_of 0 hts (gTB0 q_M_thrown) rfl rfl rfl (htb _ q4) (htb _ q658) hd_M_thrown ⟨by decide, by decide⟩, (htb _ q659), (htb _ q660)⟩ ⟨ro_blind, va_recv hK0 (va_P_right hP) (ci := 3) (q0 := 0) rfl rfl, ro_pre hN (va_P_right hP) hKm⟩ rfl rfl hl.1 rfl (lv_room (Nat.le_of_ble_eq_true rfl)) d_L_law_827 ⟨hc.1, hc.2⟩) (fun r9 hr9 => ?_)
  subst hr9
  refine lv_iload hx hb d_L_law_830 (lv_at hl 0 rfl) ?_
  have hf := hfin _ _ hu hu'
  refine nr_icmp_eq (tgt := 837) hx hb (by omega) (by omega) d_L_law_832 (by decide) (fun _ => ?_) (fun h => by exfalso; omega)
  replace hP : va_P D cls (wL ad ca am cm (P1 u) (Sx u) (G1 u) (P2 u') (G2 u') (X2 u') ao co vo) H := by rw [← wL_assoc]; exact hP
  replace hD : va_D (LA s) (wL ad ca am cm (P1 u) (Sx u) (G1 u) (P2 u') (G2 u') (X2 u') ao co vo) := by rw [← wL_assoc]; exact hD
  refine lv_goto (tgt := 1072) hx hb d_L_law_837 (by decide) ?_
  exact kk u u' H locs ls hu hu' hP hD hS (lv_sub hl [1, 2, 3, 4, 5] rfl)
set_option maxHeartbeats 4000000 in
set_option maxRecDepth 100000 in
theorem tn_shift {p : Program} {l : Launch} {e : Env} {s : State} {m : MethodId} {below : List Frame} {meth : Method} {c : Code} {b L : Nat} {xs : Nat → Int32} {H : Heap} {locs : List Loc} {cells slots : Nat} {Z : State → Prop} {ls : Array Slot} {D : va_G} {ad am : Nat → Nat} {ca cm : Nat → ClassId} {ao : Nat} {co : ClassId} {vo : Nat → Int64} {P S G X : Nat → Nat → Nat} {t : Nat} {S1 S2 : Type} {P1 Sx G1 : S1 → Nat → Nat → Nat} {P2 G2 X2 : S2 → Nat → Nat → Nat} {rmM : Room} {pw : S1 → Prop} {mc ms kx : Nat} {post2 : Int32 → S2 → Prop} {v1 : S1 → Nat → Int64} {z1 z2 : Int32} (C : LC p s m meth c b L xs) (hK : LK D ca cm co s) (ht : 6 * t + 6 ≤ L) (hP : va_P D cls (wL ad ca am cm P S G P G X ao co vo) H) (hD : va_D (LA s) (wL ad ca am cm P S G P G X ao co vo)) (hS : va_S (LA s) s.heap H locs) (hl : lv_has ls 7 (lL b ad am ao t)) (hz1 : xs (6 * t + 1) = z1) (hz2 : xs (6 * t + 2) = z2) (hc : cells + mc ≤ 1065 ∧ slots + ms ≤ 9580) (hw : ∀ sz, Met l y_L_shift w_L_shift { frames := 11, cells := mc, slots := ms, locals := 410 } (lw_PW [.ref (ad 0), .int (z1), .int (z2), .ref ao] D (wRo ad ca P S G ao co vo) (tRo ca co) sz) (rw_Qi (fun (r : Int32) (u : S1) => r = nI kx ∧ pw u) D (wRo ad ca P S G ao co vo) (fun u => wRo ad ca (P1 u) (Sx u) (G1 u) ao co (v1 u)) sz) mc ms (va_A (wRo ad ca P S G ao co vo) sz)) (hrM : rmM.cells = 0 ∧ rmM.slots = 0 ∧ rmM.frames ≤ 11 ∧ rmM.locals ≤ 400) (hm : ∀ sz, Met l y_M_shift w_M_shift rmM (rw_P [.ref (am 0), .int (z1), .int (z2)] D (wM am cm P G X) (tM cm) sz) (rw_Qi post2 D (wM am cm P G X) (fun u => wM am cm (P2 u) (G2 u) (X2 u)) sz) 0 0 (va_A (wM am cm P G X) sz)) (hkx : kx ≤ 4) (hfin : ∀ u r' u', pw u → post2 r' u' → X2 u' 0 0 = kx ∧ (kx = 0 → v1 u 0 = r'.toInt64)) (kk : ∀ (u : S1) (r' : Int32) (u' : S2) (H1 : Heap) (locs1 : List Loc) (ls1 : Array Slot), pw u → post2 r' u' → va_P D cls (wL ad ca am cm (P1 u) (Sx u) (G1 u) (P2 u') (G2 u') (X2 u') ao co (v1 u)) H1 → va_D (LA s) (wL ad ca am cm (P1 u) (Sx u) (G1 u) (P2 u') (G2 u') (X2 u') ao co (v1 u)) → va_S (LA s) s.heap H1 locs1 → lv_has ls1 7 (lL b ad am ao t) → W p l e room_1 s m #[Value.ref b] below meth c H1 locs1 (cells + mc) (slots + ms) Z (F0 m 1072 ls1 [])) : W p l e room_1 s m #[Value.ref b] below meth c H locs cells slots Z (F0 m 840 ls []) := by
  obtain ⟨hx, hb, hr, hml, hown, hts, hN, hX, hCX, hV, hbl, hlocks, hL⟩ := C
  have htb := hts
  have hA : ∀ q : Nat, s.heap.size ≤ q → LA s q := fun q h => h
  have hbA : ¬ LA s b := Nat.not_le.mpr hbl
  obtain ⟨hK0, hKr, hKo, hK1, hKm⟩ := hK
  refine lv_aload_n hx hb d_L_law_840 rfl (lv_at hl 1 rfl) ?_
  refine lv_aload_n hx hb d_L_law_841 rfl (lv_at hl 0 rfl) ?_
  refine lv_iload hx hb d_L_law_842 (lv_at hl 4 rfl) ?_
  refine nr_iconst hx hb 1 d_L_law_844 (by decide) ?_
  refine nr_iadd hx hb d_L_law_845 ?_
  refine va_sld hx hb hV hbl hbA hS (nI_in (c := 6 * t + 1) (by omega) (by omega)) d_L_law_846 ?_
  refine nr_top (y := z1) ((congrArg xs (nI_clamp (by omega))).trans hz1) ?_
  refine lv_aload_n hx hb d_L_law_847 rfl (lv_at hl 0 rfl) ?_
  refine lv_iload hx hb d_L_law_848 (lv_at hl 4 rfl) ?_
  refine nr_iconst hx hb 2 d_L_law_850 (by decide) ?_
  refine nr_iadd hx hb d_L_law_851 ?_
  refine va_sld hx hb hV hbl hbA hS (nI_in (c := 6 * t + 2) (by omega) (by omega)) d_L_law_852 ?_
  refine nr_top (y := z2) ((congrArg xs (nI_clamp (by omega))).trans hz2) ?_
  refine lv_aload_n hx hb d_L_law_853 rfl (lv_at hl 3 rfl) ?_
  replace hP : va_P D cls (wRo ad ca P S G ao co vo ++ wM am cm P G X) H := by rw [wL_assoc]; exact hP
  replace hD : va_D (LA s) (wRo ad ca P S G ao co vo ++ wM am cm P G X) := by rw [wL_assoc]; exact hD
  refine nr_callwiA (va_runSW (As := [.ref (ad 0), .int (z1), .int (z2), .ref ao]) (rest := []) ⟨hx, hb, hml, hown, hts⟩ (hw H.size) ⟨rfl, rfl⟩ ⟨Nat.le_of_ble_eq_true rfl, Nat.le_of_ble_eq_true rfl⟩ (pay_in hts (gTB0 q_L_shift)) List.mem_cons_self (htb _ q533) (htb _ q534) (htb _ q0) ⟨hd_L_shift.1, hd_L_shift.2.1⟩ hd_L_shift.2.2 ⟨lw_blind, fun U hU hW => ⟨rfl, by rw [hU], hN.warm hW, tx_law hX hS U hU hW, hCX.warm hW, by rw [hU]; exact va_P_left hP, va_K.moved hW.alike hKo, (va_D_left hD).weaken (fun _ _ _ _ => trivial)⟩⟩ rfl rfl hl.1 rfl (lv_room (Nat.le_of_ble_eq_true rfl)) d_L_law_854 hc) hP hD hS hA (fun r u H locs hu hP hD hS => ?_)
  obtain ⟨rfl, hu⟩ := hu
  refine lv_istore (lv' := [(5, .int (nI kx)), (0, .ref b), (1, .ref (ad 0)), (2, .ref (am 0)), (3, .ref ao), (4, .int (nI (6 * t)))]) hx hb d_L_law_857 hl (by decide) rfl (fun ls hl => ?_)
  refine lv_aload_n hx hb d_L_law_859 rfl (lv_at hl 3 rfl) ?_
  refine lv_aload_n hx hb d_L_law_860 rfl (lv_at hl 1 rfl) ?_
  refine lv_iload hx hb d_L_law_861 (lv_at hl 5 rfl) ?_
  refine nr_iconst hx hb 1 d_L_law_863 (by decide) ?_
  refine nr_iadd hx hb d_L_law_864 ?_
  refine va_sld hx hb hV hbl hbA hS (nI_in (c := 6 * t + 1) (by omega) (by omega)) d_L_law_865 ?_
  refine nr_top (y := z1) ((congrArg xs (nI_clamp (by omega))).trans hz1) ?_
  refine lv_aload_n hx hb d_L_law_866 rfl (lv_at hl 1 rfl) ?_
  refine lv_iload hx hb d_L_law_867 (lv_at hl 5 rfl) ?_
  refine nr_iconst hx hb 2 d_L_law_869 (by decide) ?_
  refine nr_iadd hx hb d_L_law_870 ?_
  refine va_sld hx hb hV hbl hbA hS (nI_in (c := 6 * t + 2) (by omega) (by omega)) d_L_law_871 ?_
  refine nr_top (y := z2) ((congrArg xs (nI_clamp (by omega))).trans hz2) ?_
  refine nr_callwiB (va_runV (As := [.int (z1), .int (z2)]) (rest := []) ⟨hx, hb, hml, hown, hts⟩ (hm H.size) ⟨callB_of 2 hts (gTB0 q_M_shift) rfl hrM.1 hrM.2.1 (htb _ q4) (htb _ q758) hd_M_shift ⟨by show rmM.frames + 1 ≤ 12; have := hrM.2.2.1; omega, by show 8 + (3 + 11) + rmM.locals ≤ 440; have := hrM.2.2.2; omega⟩, (htb _ q759), (htb _ q760)⟩ ⟨rw_blind, va_recv hK0 (va_P_right hP) (ci := 3) (q0 := 0) rfl rfl, rw_pre hN (va_P_right hP) hKm (va_D_right hD)⟩ rfl rfl hl.1 rfl (lv_room (Nat.le_of_ble_eq_true rfl)) d_L_law_872 ⟨hc.1, hc.2⟩) hP hD hS hA (fun r' u' H locs hu' hP hD hS => ?_)
  refine lv_istore (lv' := [(6, .int r'), (5, .int (nI kx)), (0, .ref b), (1, .ref (ad 0)), (2, .ref (am 0)), (3, .ref ao), (4, .int (nI (6 * t)))]) hx hb d_L_law_875 hl (by decide) rfl (fun ls hl => ?_)
  refine lv_aload_n hx hb d_L_law_877 rfl (lv_at hl 4 rfl) ?_
  refine nr_calli (va_runV (As := []) (rest := []) ⟨hx, hb, hml, hown, hts⟩ (c_M_thrown l D am cm (P2 u') (G2 u') (X2 u')) ⟨callB_of 0 hts (gTB0 q_M_thrown) rfl rfl rfl (htb _ q4) (htb _ q658) hd_M_thrown ⟨by decide, by decide⟩, (htb _ q659), (htb _ q660)⟩ ⟨ro_blind, va_recv hK0 (va_P_right hP) (ci := 3) (q0 := 0) rfl rfl, ro_pre hN (va_P_right hP) hKm⟩ rfl rfl hl.1 rfl (lv_room (Nat.le_of_ble_eq_true rfl)) d_L_law_878 ⟨hc.1, hc.2⟩) (fun r9 hr9 => ?_)
  subst hr9
  refine lv_iload hx hb d_L_law_881 (lv_at hl 1 rfl) ?_
  have hf := hfin _ _ _ hu hu'
  refine nr_icmp_eq (tgt := 888) hx hb (by omega) (by omega) d_L_law_883 (by decide) (fun _ => ?_) (fun h => by exfalso; omega)
  replace hP : va_P D cls (wL ad ca am cm (P1 u) (Sx u) (G1 u) (P2 u') (G2 u') (X2 u') ao co (v1 u)) H := by rw [← wL_assoc]; exact hP
  replace hD : va_D (LA s) (wL ad ca am cm (P1 u) (Sx u) (G1 u) (P2 u') (G2 u') (X2 u') ao co (v1 u)) := by rw [← wL_assoc]; exact hD
  refine lv_iload hx hb d_L_law_888 (lv_at hl 1 rfl) ?_
  refine nr_if_ne (tgt := 905) hx hb (by omega) d_L_law_890 (by decide) (fun _ => ?_) (fun h0 => ?_)
  · refine lv_goto (tgt := 1072) hx hb d_L_law_905 (by decide) ?_
    exact kk u r' u' H locs ls hu hu' hP hD hS (lv_sub hl [2, 3, 4, 5, 6] rfl)
  · refine lv_aload_n hx hb d_L_law_893 rfl (lv_at hl 5 rfl) ?_
    refine nr_iconst hx hb 0 d_L_law_894 (by decide) ?_
    refine va_lald hx hb hK1 (va_P_left (va_P_right hP)) 0 0 rfl rfl (nI_in (by decide) (by decide)) d_L_law_895 ?_
    refine lv_iload hx hb d_L_law_896 (lv_at hl 0 rfl) ?_
    refine lv_i2l (v := r'.toInt64) hx hb d_L_law_898 rfl ?_
    refine lv_lcmp_eq hx hb (hf.2 h0) d_L_law_899 ?_
    refine lv_if_eq (tgt := 905) hx hb d_L_law_900 (by decide) (fun _ => ?_) (fun h => absurd rfl h)
    refine lv_goto (tgt := 1072) hx hb d_L_law_905 (by decide) ?_
    exact kk u r' u' H locs ls hu hu' hP hD hS (lv_sub hl [2, 3, 4, 5, 6] rfl)
set_option maxHeartbeats 4000000 in
set_option maxRecDepth 100000 in
theorem tn_wrong {p : Program} {l : Launch} {e : Env} {s : State} {m : MethodId} {below : List Frame} {meth : Method} {c : Code} {b L : Nat} {xs : Nat → Int32} {H : Heap} {locs : List Loc} {cells slots : Nat} {Z : State → Prop} {ls : Array Slot} {D : va_G} {ad am : Nat → Nat} {ca cm : Nat → ClassId} {ao : Nat} {co : ClassId} {vo : Nat → Int64} {P S G X : Nat → Nat → Nat} {t : Nat} {S1 S2 : Type} {P1 Sx G1 : S1 → Nat → Nat → Nat} {P2 G2 X2 : S2 → Nat → Nat → Nat} {rmM : Room} {rmR : Room} {post1 : Int32 → S1 → Prop} {post2 : Int32 → S2 → Prop} (C : LC p s m meth c b L xs) (hK : LK D ca cm co s) (ht : 6 * t + 6 ≤ L) (hP : va_P D cls (wL ad ca am cm P S G P G X ao co vo) H) (hD : va_D (LA s) (wL ad ca am cm P S G P G X ao co vo)) (hS : va_S (LA s) s.heap H locs) (hl : lv_has ls 7 (lL b ad am ao t))  (hc : cells ≤ 1065 ∧ slots ≤ 9580) (hrR : rmR.cells = 0 ∧ rmR.slots = 0 ∧ rmR.frames ≤ 11 ∧ rmR.locals ≤ 400) (hw : ∀ sz, Met l y_R_wrong w_R_wrong rmR (rw_P [.ref (ad 0)] D (wR ad ca P S G) (tR ca) sz) (rw_Qi post1 D (wR ad ca P S G) (fun u => wR ad ca (P1 u) (Sx u) (G1 u)) sz) 0 0 (va_A (wR ad ca P S G) sz)) (hrM : rmM.cells = 0 ∧ rmM.slots = 0 ∧ rmM.frames ≤ 11 ∧ rmM.locals ≤ 400) (hm : ∀ sz, Met l y_M_wrong w_M_wrong rmM (rw_P [.ref (am 0)] D (wM am cm P G X) (tM cm) sz) (rw_Qi post2 D (wM am cm P G X) (fun u => wM am cm (P2 u) (G2 u) (X2 u)) sz) 0 0 (va_A (wM am cm P G X) sz)) (hfin : ∀ r u r' u', post1 r u → post2 r' u' → r = r') (kk : ∀ (r : Int32) (u : S1) (r' : Int32) (u' : S2) (H1 : Heap) (locs1 : List Loc) (ls1 : Array Slot), post1 r u → post2 r' u' → va_P D cls (wL ad ca am cm (P1 u) (Sx u) (G1 u) (P2 u') (G2 u') (X2 u') ao co vo) H1 → va_D (LA s) (wL ad ca am cm (P1 u) (Sx u) (G1 u) (P2 u') (G2 u') (X2 u') ao co vo) → va_S (LA s) s.heap H1 locs1 → lv_has ls1 7 (lL b ad am ao t) → W p l e room_1 s m #[Value.ref b] below meth c H1 locs1 cells slots Z (F0 m 1072 ls1 [])) : W p l e room_1 s m #[Value.ref b] below meth c H locs cells slots Z (F0 m 908 ls []) := by
  obtain ⟨hx, hb, hr, hml, hown, hts, hN, hX, hCX, hV, hbl, hlocks, hL⟩ := C
  have htb := hts
  have hA : ∀ q : Nat, s.heap.size ≤ q → LA s q := fun q h => h
  have hbA : ¬ LA s b := Nat.not_le.mpr hbl
  obtain ⟨hK0, hKr, hKo, hK1, hKm⟩ := hK
  refine lv_aload_n hx hb d_L_law_908 rfl (lv_at hl 1 rfl) ?_
  refine nr_callwiA (va_runV (As := []) (rest := []) ⟨hx, hb, hml, hown, hts⟩ (hw H.size) ⟨callB_of 0 hts (gTB0 q_R_wrong) rfl hrR.1 hrR.2.1 (htb _ q1) (htb _ q153) hd_R_wrong ⟨by show rmR.frames + 1 ≤ 12; have := hrR.2.2.1; omega, by show 8 + (1 + 11) + rmR.locals ≤ 440; have := hrR.2.2.2; omega⟩, (htb _ q154), (htb _ q155)⟩ ⟨rw_blind, va_recv hK0 (va_P_left hP) (ci := 2) (q0 := 15) rfl rfl, rw_pre hN (va_P_left hP) hKr (va_D_left hD)⟩ rfl rfl hl.1 rfl (lv_room (Nat.le_of_ble_eq_true rfl)) d_L_law_909 hc) hP hD hS hA (fun r u H locs hu hP hD hS => ?_)
  refine lv_aload_n hx hb d_L_law_912 rfl (lv_at hl 2 rfl) ?_
  replace hP : va_P D cls (wRo ad ca (P1 u) (Sx u) (G1 u) ao co vo ++ wM am cm P G X) H := by rw [wL_assoc]; exact hP
  replace hD : va_D (LA s) (wRo ad ca (P1 u) (Sx u) (G1 u) ao co vo ++ wM am cm P G X) := by rw [wL_assoc]; exact hD
  refine nr_callwiB (va_runV (As := []) (rest := [.int r]) ⟨hx, hb, hml, hown, hts⟩ (hm H.size) ⟨callB_of 0 hts (gTB0 q_M_wrong) rfl hrM.1 hrM.2.1 (htb _ q4) (htb _ q762) hd_M_wrong ⟨by show rmM.frames + 1 ≤ 12; have := hrM.2.2.1; omega, by show 8 + (1 + 11) + rmM.locals ≤ 440; have := hrM.2.2.2; omega⟩, (htb _ q763), (htb _ q764)⟩ ⟨rw_blind, va_recv hK0 (va_P_right hP) (ci := 3) (q0 := 0) rfl rfl, rw_pre hN (va_P_right hP) hKm (va_D_right hD)⟩ rfl rfl hl.1 rfl (lv_room (Nat.le_of_ble_eq_true rfl)) d_L_law_913 ⟨hc.1, hc.2⟩) hP hD hS hA (fun r' u' H locs hu' hP hD hS => ?_)
  refine lv_icmp_eq (tgt := 1072) hx hb d_L_law_916 (by decide) (fun _ => ?_) (fun h => absurd (hfin _ _ _ _ hu hu') h)
  replace hP : va_P D cls (wL ad ca am cm (P1 u) (Sx u) (G1 u) (P2 u') (G2 u') (X2 u') ao co vo) H := by rw [← wL_assoc]; exact hP
  replace hD : va_D (LA s) (wL ad ca am cm (P1 u) (Sx u) (G1 u) (P2 u') (G2 u') (X2 u') ao co vo) := by rw [← wL_assoc]; exact hD
  exact kk r u r' u' H locs ls hu hu' hP hD hS (lv_sub hl [0, 1, 2, 3, 4] rfl)
set_option maxHeartbeats 4000000 in
set_option maxRecDepth 100000 in
theorem tn_unmet {p : Program} {l : Launch} {e : Env} {s : State} {m : MethodId} {below : List Frame} {meth : Method} {c : Code} {b L : Nat} {xs : Nat → Int32} {H : Heap} {locs : List Loc} {cells slots : Nat} {Z : State → Prop} {ls : Array Slot} {D : va_G} {ad am : Nat → Nat} {ca cm : Nat → ClassId} {ao : Nat} {co : ClassId} {vo : Nat → Int64} {P S G X : Nat → Nat → Nat} {t : Nat} {S1 S2 : Type} {P1 Sx G1 : S1 → Nat → Nat → Nat} {P2 G2 X2 : S2 → Nat → Nat → Nat} {rmM : Room} {rmR : Room} {post1 : Int32 → S1 → Prop} {post2 : Int32 → S2 → Prop} (C : LC p s m meth c b L xs) (hK : LK D ca cm co s) (ht : 6 * t + 6 ≤ L) (hP : va_P D cls (wL ad ca am cm P S G P G X ao co vo) H) (hD : va_D (LA s) (wL ad ca am cm P S G P G X ao co vo)) (hS : va_S (LA s) s.heap H locs) (hl : lv_has ls 7 (lL b ad am ao t))  (hc : cells ≤ 1065 ∧ slots ≤ 9580) (hrR : rmR.cells = 0 ∧ rmR.slots = 0 ∧ rmR.frames ≤ 11 ∧ rmR.locals ≤ 400) (hw : ∀ sz, Met l y_R_unmet w_R_unmet rmR (rw_P [.ref (ad 0)] D (wR ad ca P S G) (tR ca) sz) (rw_Qi post1 D (wR ad ca P S G) (fun u => wR ad ca (P1 u) (Sx u) (G1 u)) sz) 0 0 (va_A (wR ad ca P S G) sz)) (hrM : rmM.cells = 0 ∧ rmM.slots = 0 ∧ rmM.frames ≤ 11 ∧ rmM.locals ≤ 400) (hm : ∀ sz, Met l y_M_unmet w_M_unmet rmM (rw_P [.ref (am 0)] D (wM am cm P G X) (tM cm) sz) (rw_Qi post2 D (wM am cm P G X) (fun u => wM am cm (P2 u) (G2 u) (X2 u)) sz) 0 0 (va_A (wM am cm P G X) sz)) (hfin : ∀ r u r' u', post1 r u → post2 r' u' → r = r') (kk : ∀ (r : Int32) (u : S1) (r' : Int32) (u' : S2) (H1 : Heap) (locs1 : List Loc) (ls1 : Array Slot), post1 r u → post2 r' u' → va_P D cls (wL ad ca am cm (P1 u) (Sx u) (G1 u) (P2 u') (G2 u') (X2 u') ao co vo) H1 → va_D (LA s) (wL ad ca am cm (P1 u) (Sx u) (G1 u) (P2 u') (G2 u') (X2 u') ao co vo) → va_S (LA s) s.heap H1 locs1 → lv_has ls1 7 (lL b ad am ao t) → W p l e room_1 s m #[Value.ref b] below meth c H1 locs1 cells slots Z (F0 m 1072 ls1 [])) : W p l e room_1 s m #[Value.ref b] below meth c H locs cells slots Z (F0 m 921 ls []) := by
  obtain ⟨hx, hb, hr, hml, hown, hts, hN, hX, hCX, hV, hbl, hlocks, hL⟩ := C
  have htb := hts
  have hA : ∀ q : Nat, s.heap.size ≤ q → LA s q := fun q h => h
  have hbA : ¬ LA s b := Nat.not_le.mpr hbl
  obtain ⟨hK0, hKr, hKo, hK1, hKm⟩ := hK
  refine lv_aload_n hx hb d_L_law_921 rfl (lv_at hl 1 rfl) ?_
  refine nr_callwiA (va_runV (As := []) (rest := []) ⟨hx, hb, hml, hown, hts⟩ (hw H.size) ⟨callB_of 0 hts (gTB0 q_R_unmet) rfl hrR.1 hrR.2.1 (htb _ q1) (htb _ q209) hd_R_unmet ⟨by show rmR.frames + 1 ≤ 12; have := hrR.2.2.1; omega, by show 8 + (1 + 11) + rmR.locals ≤ 440; have := hrR.2.2.2; omega⟩, (htb _ q210), (htb _ q211)⟩ ⟨rw_blind, va_recv hK0 (va_P_left hP) (ci := 2) (q0 := 15) rfl rfl, rw_pre hN (va_P_left hP) hKr (va_D_left hD)⟩ rfl rfl hl.1 rfl (lv_room (Nat.le_of_ble_eq_true rfl)) d_L_law_922 hc) hP hD hS hA (fun r u H locs hu hP hD hS => ?_)
  refine lv_aload_n hx hb d_L_law_925 rfl (lv_at hl 2 rfl) ?_
  replace hP : va_P D cls (wRo ad ca (P1 u) (Sx u) (G1 u) ao co vo ++ wM am cm P G X) H := by rw [wL_assoc]; exact hP
  replace hD : va_D (LA s) (wRo ad ca (P1 u) (Sx u) (G1 u) ao co vo ++ wM am cm P G X) := by rw [wL_assoc]; exact hD
  refine nr_callwiB (va_runV (As := []) (rest := [.int r]) ⟨hx, hb, hml, hown, hts⟩ (hm H.size) ⟨callB_of 0 hts (gTB0 q_M_unmet) rfl hrM.1 hrM.2.1 (htb _ q4) (htb _ q766) hd_M_unmet ⟨by show rmM.frames + 1 ≤ 12; have := hrM.2.2.1; omega, by show 8 + (1 + 11) + rmM.locals ≤ 440; have := hrM.2.2.2; omega⟩, (htb _ q767), (htb _ q768)⟩ ⟨rw_blind, va_recv hK0 (va_P_right hP) (ci := 3) (q0 := 0) rfl rfl, rw_pre hN (va_P_right hP) hKm (va_D_right hD)⟩ rfl rfl hl.1 rfl (lv_room (Nat.le_of_ble_eq_true rfl)) d_L_law_926 ⟨hc.1, hc.2⟩) hP hD hS hA (fun r' u' H locs hu' hP hD hS => ?_)
  refine lv_icmp_eq (tgt := 1072) hx hb d_L_law_929 (by decide) (fun _ => ?_) (fun h => absurd (hfin _ _ _ _ hu hu') h)
  replace hP : va_P D cls (wL ad ca am cm (P1 u) (Sx u) (G1 u) (P2 u') (G2 u') (X2 u') ao co vo) H := by rw [← wL_assoc]; exact hP
  replace hD : va_D (LA s) (wL ad ca am cm (P1 u) (Sx u) (G1 u) (P2 u') (G2 u') (X2 u') ao co vo) := by rw [← wL_assoc]; exact hD
  exact kk r u r' u' H locs ls hu hu' hP hD hS (lv_sub hl [0, 1, 2, 3, 4] rfl)
set_option maxHeartbeats 4000000 in
set_option maxRecDepth 100000 in
theorem tn_cost {p : Program} {l : Launch} {e : Env} {s : State} {m : MethodId} {below : List Frame} {meth : Method} {c : Code} {b L : Nat} {xs : Nat → Int32} {H : Heap} {locs : List Loc} {cells slots : Nat} {Z : State → Prop} {ls : Array Slot} {D : va_G} {ad am : Nat → Nat} {ca cm : Nat → ClassId} {ao : Nat} {co : ClassId} {vo : Nat → Int64} {P S G X : Nat → Nat → Nat} {t : Nat} {S1 S2 : Type} {P1 Sx G1 : S1 → Nat → Nat → Nat} {P2 G2 X2 : S2 → Nat → Nat → Nat} {rmM : Room} {rmR : Room} {post1 : Int32 → S1 → Prop} {post2 : Int32 → S2 → Prop} (C : LC p s m meth c b L xs) (hK : LK D ca cm co s) (ht : 6 * t + 6 ≤ L) (hP : va_P D cls (wL ad ca am cm P S G P G X ao co vo) H) (hD : va_D (LA s) (wL ad ca am cm P S G P G X ao co vo)) (hS : va_S (LA s) s.heap H locs) (hl : lv_has ls 7 (lL b ad am ao t))  (hc : cells ≤ 1065 ∧ slots ≤ 9580) (hrR : rmR.cells = 0 ∧ rmR.slots = 0 ∧ rmR.frames ≤ 11 ∧ rmR.locals ≤ 400) (hw : ∀ sz, Met l y_R_cost w_R_cost rmR (rw_P [.ref (ad 0)] D (wR ad ca P S G) (tR ca) sz) (rw_Qi post1 D (wR ad ca P S G) (fun u => wR ad ca (P1 u) (Sx u) (G1 u)) sz) 0 0 (va_A (wR ad ca P S G) sz)) (hrM : rmM.cells = 0 ∧ rmM.slots = 0 ∧ rmM.frames ≤ 11 ∧ rmM.locals ≤ 400) (hm : ∀ sz, Met l y_M_cost w_M_cost rmM (rw_P [.ref (am 0)] D (wM am cm P G X) (tM cm) sz) (rw_Qi post2 D (wM am cm P G X) (fun u => wM am cm (P2 u) (G2 u) (X2 u)) sz) 0 0 (va_A (wM am cm P G X) sz)) (hfin : ∀ r u r' u', post1 r u → post2 r' u' → r = r') (kk : ∀ (r : Int32) (u : S1) (r' : Int32) (u' : S2) (H1 : Heap) (locs1 : List Loc) (ls1 : Array Slot), post1 r u → post2 r' u' → va_P D cls (wL ad ca am cm (P1 u) (Sx u) (G1 u) (P2 u') (G2 u') (X2 u') ao co vo) H1 → va_D (LA s) (wL ad ca am cm (P1 u) (Sx u) (G1 u) (P2 u') (G2 u') (X2 u') ao co vo) → va_S (LA s) s.heap H1 locs1 → lv_has ls1 7 (lL b ad am ao t) → W p l e room_1 s m #[Value.ref b] below meth c H1 locs1 cells slots Z (F0 m 1072 ls1 [])) : W p l e room_1 s m #[Value.ref b] below meth c H locs cells slots Z (F0 m 934 ls []) := by
  obtain ⟨hx, hb, hr, hml, hown, hts, hN, hX, hCX, hV, hbl, hlocks, hL⟩ := C
  have htb := hts
  have hA : ∀ q : Nat, s.heap.size ≤ q → LA s q := fun q h => h
  have hbA : ¬ LA s b := Nat.not_le.mpr hbl
  obtain ⟨hK0, hKr, hKo, hK1, hKm⟩ := hK
  refine lv_aload_n hx hb d_L_law_934 rfl (lv_at hl 1 rfl) ?_
  refine nr_callwiA (va_runV (As := []) (rest := []) ⟨hx, hb, hml, hown, hts⟩ (hw H.size) ⟨callB_of 0 hts (gTB0 q_R_cost) rfl hrR.1 hrR.2.1 (htb _ q1) (htb _ q217) hd_R_cost ⟨by show rmR.frames + 1 ≤ 12; have := hrR.2.2.1; omega, by show 8 + (1 + 11) + rmR.locals ≤ 440; have := hrR.2.2.2; omega⟩, (htb _ q218), (htb _ q219)⟩ ⟨rw_blind, va_recv hK0 (va_P_left hP) (ci := 2) (q0 := 15) rfl rfl, rw_pre hN (va_P_left hP) hKr (va_D_left hD)⟩ rfl rfl hl.1 rfl (lv_room (Nat.le_of_ble_eq_true rfl)) d_L_law_935 hc) hP hD hS hA (fun r u H locs hu hP hD hS => ?_)
  refine lv_aload_n hx hb d_L_law_938 rfl (lv_at hl 2 rfl) ?_
  replace hP : va_P D cls (wRo ad ca (P1 u) (Sx u) (G1 u) ao co vo ++ wM am cm P G X) H := by rw [wL_assoc]; exact hP
  replace hD : va_D (LA s) (wRo ad ca (P1 u) (Sx u) (G1 u) ao co vo ++ wM am cm P G X) := by rw [wL_assoc]; exact hD
  refine nr_callwiB (va_runV (As := []) (rest := [.int r]) ⟨hx, hb, hml, hown, hts⟩ (hm H.size) ⟨callB_of 0 hts (gTB0 q_M_cost) rfl hrM.1 hrM.2.1 (htb _ q4) (htb _ q770) hd_M_cost ⟨by show rmM.frames + 1 ≤ 12; have := hrM.2.2.1; omega, by show 8 + (3 + 11) + rmM.locals ≤ 440; have := hrM.2.2.2; omega⟩, (htb _ q771), (htb _ q772)⟩ ⟨rw_blind, va_recv hK0 (va_P_right hP) (ci := 3) (q0 := 0) rfl rfl, rw_pre hN (va_P_right hP) hKm (va_D_right hD)⟩ rfl rfl hl.1 rfl (lv_room (Nat.le_of_ble_eq_true rfl)) d_L_law_939 ⟨hc.1, hc.2⟩) hP hD hS hA (fun r' u' H locs hu' hP hD hS => ?_)
  refine lv_icmp_eq (tgt := 1072) hx hb d_L_law_942 (by decide) (fun _ => ?_) (fun h => absurd (hfin _ _ _ _ hu hu') h)
  replace hP : va_P D cls (wL ad ca am cm (P1 u) (Sx u) (G1 u) (P2 u') (G2 u') (X2 u') ao co vo) H := by rw [← wL_assoc]; exact hP
  replace hD : va_D (LA s) (wL ad ca am cm (P1 u) (Sx u) (G1 u) (P2 u') (G2 u') (X2 u') ao co vo) := by rw [← wL_assoc]; exact hD
  exact kk r u r' u' H locs ls hu hu' hP hD hS (lv_sub hl [0, 1, 2, 3, 4] rfl)
set_option maxHeartbeats 4000000 in
set_option maxRecDepth 100000 in
theorem tn_share {p : Program} {l : Launch} {e : Env} {s : State} {m : MethodId} {below : List Frame} {meth : Method} {c : Code} {b L : Nat} {xs : Nat → Int32} {H : Heap} {locs : List Loc} {cells slots : Nat} {Z : State → Prop} {ls : Array Slot} {D : va_G} {ad am : Nat → Nat} {ca cm : Nat → ClassId} {ao : Nat} {co : ClassId} {vo : Nat → Int64} {P S G X : Nat → Nat → Nat} {t : Nat} {S1 S2 : Type} {P1 Sx G1 : S1 → Nat → Nat → Nat} {P2 G2 X2 : S2 → Nat → Nat → Nat} {rmM : Room} {pw : S1 → Prop} {mc ms kx : Nat} {post2 : Int32 → S2 → Prop} {v1 : S1 → Nat → Int64} {z1 : Int32} (C : LC p s m meth c b L xs) (hK : LK D ca cm co s) (ht : 6 * t + 6 ≤ L) (hP : va_P D cls (wL ad ca am cm P S G P G X ao co vo) H) (hD : va_D (LA s) (wL ad ca am cm P S G P G X ao co vo)) (hS : va_S (LA s) s.heap H locs) (hl : lv_has ls 7 (lL b ad am ao t)) (hz1 : xs (6 * t + 1) = z1) (hc : cells + mc ≤ 1065 ∧ slots + ms ≤ 9580) (hw : ∀ sz, Met l y_L_share w_L_share { frames := 11, cells := mc, slots := ms, locals := 410 } (lw_PW [.ref (ad 0), .int (z1), .ref ao] D (wRo ad ca P S G ao co vo) (tRo ca co) sz) (rw_Qi (fun (r : Int32) (u : S1) => r = nI kx ∧ pw u) D (wRo ad ca P S G ao co vo) (fun u => wRo ad ca (P1 u) (Sx u) (G1 u) ao co (v1 u)) sz) mc ms (va_A (wRo ad ca P S G ao co vo) sz)) (hrM : rmM.cells = 0 ∧ rmM.slots = 0 ∧ rmM.frames ≤ 11 ∧ rmM.locals ≤ 400) (hm : ∀ sz, Met l y_M_share w_M_share rmM (rw_P [.ref (am 0), .int (z1)] D (wM am cm P G X) (tM cm) sz) (rw_Qi post2 D (wM am cm P G X) (fun u => wM am cm (P2 u) (G2 u) (X2 u)) sz) 0 0 (va_A (wM am cm P G X) sz)) (hkx : kx ≤ 4) (hfin : ∀ u r' u', pw u → post2 r' u' → X2 u' 0 0 = kx ∧ (kx = 0 → v1 u 0 = r'.toInt64)) (kk : ∀ (u : S1) (r' : Int32) (u' : S2) (H1 : Heap) (locs1 : List Loc) (ls1 : Array Slot), pw u → post2 r' u' → va_P D cls (wL ad ca am cm (P1 u) (Sx u) (G1 u) (P2 u') (G2 u') (X2 u') ao co (v1 u)) H1 → va_D (LA s) (wL ad ca am cm (P1 u) (Sx u) (G1 u) (P2 u') (G2 u') (X2 u') ao co (v1 u)) → va_S (LA s) s.heap H1 locs1 → lv_has ls1 7 (lL b ad am ao t) → W p l e room_1 s m #[Value.ref b] below meth c H1 locs1 (cells + mc) (slots + ms) Z (F0 m 1072 ls1 [])) : W p l e room_1 s m #[Value.ref b] below meth c H locs cells slots Z (F0 m 947 ls []) := by
  obtain ⟨hx, hb, hr, hml, hown, hts, hN, hX, hCX, hV, hbl, hlocks, hL⟩ := C
  have htb := hts
  have hA : ∀ q : Nat, s.heap.size ≤ q → LA s q := fun q h => h
  have hbA : ¬ LA s b := Nat.not_le.mpr hbl
  obtain ⟨hK0, hKr, hKo, hK1, hKm⟩ := hK
  refine lv_aload_n hx hb d_L_law_947 rfl (lv_at hl 1 rfl) ?_
  refine lv_aload_n hx hb d_L_law_948 rfl (lv_at hl 0 rfl) ?_
  refine lv_iload hx hb d_L_law_949 (lv_at hl 4 rfl) ?_
  refine nr_iconst hx hb 1 d_L_law_951 (by decide) ?_
  refine nr_iadd hx hb d_L_law_952 ?_
  refine va_sld hx hb hV hbl hbA hS (nI_in (c := 6 * t + 1) (by omega) (by omega)) d_L_law_953 ?_
  refine nr_top (y := z1) ((congrArg xs (nI_clamp (by omega))).trans hz1) ?_
  refine lv_aload_n hx hb d_L_law_954 rfl (lv_at hl 3 rfl) ?_
  replace hP : va_P D cls (wRo ad ca P S G ao co vo ++ wM am cm P G X) H := by rw [wL_assoc]; exact hP
  replace hD : va_D (LA s) (wRo ad ca P S G ao co vo ++ wM am cm P G X) := by rw [wL_assoc]; exact hD
  refine nr_callwiA (va_runSW (As := [.ref (ad 0), .int (z1), .ref ao]) (rest := []) ⟨hx, hb, hml, hown, hts⟩ (hw H.size) ⟨rfl, rfl⟩ ⟨Nat.le_of_ble_eq_true rfl, Nat.le_of_ble_eq_true rfl⟩ (pay_in hts (gTB0 q_L_share)) List.mem_cons_self (htb _ q540) (htb _ q541) (htb _ q0) ⟨hd_L_share.1, hd_L_share.2.1⟩ hd_L_share.2.2 ⟨lw_blind, fun U hU hW => ⟨rfl, by rw [hU], hN.warm hW, tx_law hX hS U hU hW, hCX.warm hW, by rw [hU]; exact va_P_left hP, va_K.moved hW.alike hKo, (va_D_left hD).weaken (fun _ _ _ _ => trivial)⟩⟩ rfl rfl hl.1 rfl (lv_room (Nat.le_of_ble_eq_true rfl)) d_L_law_955 hc) hP hD hS hA (fun r u H locs hu hP hD hS => ?_)
  obtain ⟨rfl, hu⟩ := hu
  refine lv_istore (lv' := [(5, .int (nI kx)), (0, .ref b), (1, .ref (ad 0)), (2, .ref (am 0)), (3, .ref ao), (4, .int (nI (6 * t)))]) hx hb d_L_law_958 hl (by decide) rfl (fun ls hl => ?_)
  refine lv_aload_n hx hb d_L_law_960 rfl (lv_at hl 3 rfl) ?_
  refine lv_aload_n hx hb d_L_law_961 rfl (lv_at hl 1 rfl) ?_
  refine lv_iload hx hb d_L_law_962 (lv_at hl 5 rfl) ?_
  refine nr_iconst hx hb 1 d_L_law_964 (by decide) ?_
  refine nr_iadd hx hb d_L_law_965 ?_
  refine va_sld hx hb hV hbl hbA hS (nI_in (c := 6 * t + 1) (by omega) (by omega)) d_L_law_966 ?_
  refine nr_top (y := z1) ((congrArg xs (nI_clamp (by omega))).trans hz1) ?_
  refine nr_callwiB (va_runV (As := [.int (z1)]) (rest := []) ⟨hx, hb, hml, hown, hts⟩ (hm H.size) ⟨callB_of 1 hts (gTB0 q_M_share) rfl hrM.1 hrM.2.1 (htb _ q4) (htb _ q778) hd_M_share ⟨by show rmM.frames + 1 ≤ 12; have := hrM.2.2.1; omega, by show 8 + (4 + 11) + rmM.locals ≤ 440; have := hrM.2.2.2; omega⟩, (htb _ q779), (htb _ q780)⟩ ⟨rw_blind, va_recv hK0 (va_P_right hP) (ci := 3) (q0 := 0) rfl rfl, rw_pre hN (va_P_right hP) hKm (va_D_right hD)⟩ rfl rfl hl.1 rfl (lv_room (Nat.le_of_ble_eq_true rfl)) d_L_law_967 ⟨hc.1, hc.2⟩) hP hD hS hA (fun r' u' H locs hu' hP hD hS => ?_)
  refine lv_istore (lv' := [(6, .int r'), (5, .int (nI kx)), (0, .ref b), (1, .ref (ad 0)), (2, .ref (am 0)), (3, .ref ao), (4, .int (nI (6 * t)))]) hx hb d_L_law_970 hl (by decide) rfl (fun ls hl => ?_)
  refine lv_aload_n hx hb d_L_law_972 rfl (lv_at hl 4 rfl) ?_
  refine nr_calli (va_runV (As := []) (rest := []) ⟨hx, hb, hml, hown, hts⟩ (c_M_thrown l D am cm (P2 u') (G2 u') (X2 u')) ⟨callB_of 0 hts (gTB0 q_M_thrown) rfl rfl rfl (htb _ q4) (htb _ q658) hd_M_thrown ⟨by decide, by decide⟩, (htb _ q659), (htb _ q660)⟩ ⟨ro_blind, va_recv hK0 (va_P_right hP) (ci := 3) (q0 := 0) rfl rfl, ro_pre hN (va_P_right hP) hKm⟩ rfl rfl hl.1 rfl (lv_room (Nat.le_of_ble_eq_true rfl)) d_L_law_973 ⟨hc.1, hc.2⟩) (fun r9 hr9 => ?_)
  subst hr9
  refine lv_iload hx hb d_L_law_976 (lv_at hl 1 rfl) ?_
  have hf := hfin _ _ _ hu hu'
  refine nr_icmp_eq (tgt := 983) hx hb (by omega) (by omega) d_L_law_978 (by decide) (fun _ => ?_) (fun h => by exfalso; omega)
  replace hP : va_P D cls (wL ad ca am cm (P1 u) (Sx u) (G1 u) (P2 u') (G2 u') (X2 u') ao co (v1 u)) H := by rw [← wL_assoc]; exact hP
  replace hD : va_D (LA s) (wL ad ca am cm (P1 u) (Sx u) (G1 u) (P2 u') (G2 u') (X2 u') ao co (v1 u)) := by rw [← wL_assoc]; exact hD
  refine lv_iload hx hb d_L_law_983 (lv_at hl 1 rfl) ?_
  refine nr_if_ne (tgt := 1000) hx hb (by omega) d_L_law_985 (by decide) (fun _ => ?_) (fun h0 => ?_)
  · refine lv_goto (tgt := 1072) hx hb d_L_law_1000 (by decide) ?_
    exact kk u r' u' H locs ls hu hu' hP hD hS (lv_sub hl [2, 3, 4, 5, 6] rfl)
  · refine lv_aload_n hx hb d_L_law_988 rfl (lv_at hl 5 rfl) ?_
    refine nr_iconst hx hb 0 d_L_law_989 (by decide) ?_
    refine va_lald hx hb hK1 (va_P_left (va_P_right hP)) 0 0 rfl rfl (nI_in (by decide) (by decide)) d_L_law_990 ?_
    refine lv_iload hx hb d_L_law_991 (lv_at hl 0 rfl) ?_
    refine lv_i2l (v := r'.toInt64) hx hb d_L_law_993 rfl ?_
    refine lv_lcmp_eq hx hb (hf.2 h0) d_L_law_994 ?_
    refine lv_if_eq (tgt := 1000) hx hb d_L_law_995 (by decide) (fun _ => ?_) (fun h => absurd rfl h)
    refine lv_goto (tgt := 1072) hx hb d_L_law_1000 (by decide) ?_
    exact kk u r' u' H locs ls hu hu' hP hD hS (lv_sub hl [2, 3, 4, 5, 6] rfl)
set_option maxHeartbeats 4000000 in
set_option maxRecDepth 100000 in
theorem tn_publish {p : Program} {l : Launch} {e : Env} {s : State} {m : MethodId} {below : List Frame} {meth : Method} {c : Code} {b L : Nat} {xs : Nat → Int32} {H : Heap} {locs : List Loc} {cells slots : Nat} {Z : State → Prop} {ls : Array Slot} {D : va_G} {ad am : Nat → Nat} {ca cm : Nat → ClassId} {ao : Nat} {co : ClassId} {vo : Nat → Int64} {P S G X : Nat → Nat → Nat} {t : Nat} {S1 S2 : Type} {P1 Sx G1 : S1 → Nat → Nat → Nat} {P2 G2 X2 : S2 → Nat → Nat → Nat} {rmM : Room} {rmR : Room} {post1 : Int32 → S1 → Prop} {post2 : Int32 → S2 → Prop} (C : LC p s m meth c b L xs) (hK : LK D ca cm co s) (ht : 6 * t + 6 ≤ L) (hP : va_P D cls (wL ad ca am cm P S G P G X ao co vo) H) (hD : va_D (LA s) (wL ad ca am cm P S G P G X ao co vo)) (hS : va_S (LA s) s.heap H locs) (hl : lv_has ls 7 (lL b ad am ao t))  (hc : cells ≤ 1065 ∧ slots ≤ 9580) (hrR : rmR.cells = 0 ∧ rmR.slots = 0 ∧ rmR.frames ≤ 11 ∧ rmR.locals ≤ 400) (hw : ∀ sz, Met l y_R_publish w_R_publish rmR (rw_P [.ref (ad 0)] D (wR ad ca P S G) (tR ca) sz) (rw_Qi post1 D (wR ad ca P S G) (fun u => wR ad ca (P1 u) (Sx u) (G1 u)) sz) 0 0 (va_A (wR ad ca P S G) sz)) (hrM : rmM.cells = 0 ∧ rmM.slots = 0 ∧ rmM.frames ≤ 11 ∧ rmM.locals ≤ 400) (hm : ∀ sz, Met l y_M_publish w_M_publish rmM (rw_P [.ref (am 0)] D (wM am cm P G X) (tM cm) sz) (rw_Qi post2 D (wM am cm P G X) (fun u => wM am cm (P2 u) (G2 u) (X2 u)) sz) 0 0 (va_A (wM am cm P G X) sz)) (hfin : ∀ r u r' u', post1 r u → post2 r' u' → r = r') (kk : ∀ (r : Int32) (u : S1) (r' : Int32) (u' : S2) (H1 : Heap) (locs1 : List Loc) (ls1 : Array Slot), post1 r u → post2 r' u' → va_P D cls (wL ad ca am cm (P1 u) (Sx u) (G1 u) (P2 u') (G2 u') (X2 u') ao co vo) H1 → va_D (LA s) (wL ad ca am cm (P1 u) (Sx u) (G1 u) (P2 u') (G2 u') (X2 u') ao co vo) → va_S (LA s) s.heap H1 locs1 → lv_has ls1 7 (lL b ad am ao t) → W p l e room_1 s m #[Value.ref b] below meth c H1 locs1 cells slots Z (F0 m 1072 ls1 [])) : W p l e room_1 s m #[Value.ref b] below meth c H locs cells slots Z (F0 m 1003 ls []) := by
  obtain ⟨hx, hb, hr, hml, hown, hts, hN, hX, hCX, hV, hbl, hlocks, hL⟩ := C
  have htb := hts
  have hA : ∀ q : Nat, s.heap.size ≤ q → LA s q := fun q h => h
  have hbA : ¬ LA s b := Nat.not_le.mpr hbl
  obtain ⟨hK0, hKr, hKo, hK1, hKm⟩ := hK
  refine lv_aload_n hx hb d_L_law_1003 rfl (lv_at hl 1 rfl) ?_
  refine nr_callwiA (va_runV (As := []) (rest := []) ⟨hx, hb, hml, hown, hts⟩ (hw H.size) ⟨callB_of 0 hts (gTB0 q_R_publish) rfl hrR.1 hrR.2.1 (htb _ q1) (htb _ q229) hd_R_publish ⟨by show rmR.frames + 1 ≤ 12; have := hrR.2.2.1; omega, by show 8 + (5 + 11) + rmR.locals ≤ 440; have := hrR.2.2.2; omega⟩, (htb _ q230), (htb _ q231)⟩ ⟨rw_blind, va_recv hK0 (va_P_left hP) (ci := 2) (q0 := 15) rfl rfl, rw_pre hN (va_P_left hP) hKr (va_D_left hD)⟩ rfl rfl hl.1 rfl (lv_room (Nat.le_of_ble_eq_true rfl)) d_L_law_1004 hc) hP hD hS hA (fun r u H locs hu hP hD hS => ?_)
  refine lv_aload_n hx hb d_L_law_1007 rfl (lv_at hl 2 rfl) ?_
  replace hP : va_P D cls (wRo ad ca (P1 u) (Sx u) (G1 u) ao co vo ++ wM am cm P G X) H := by rw [wL_assoc]; exact hP
  replace hD : va_D (LA s) (wRo ad ca (P1 u) (Sx u) (G1 u) ao co vo ++ wM am cm P G X) := by rw [wL_assoc]; exact hD
  refine nr_callwiB (va_runV (As := []) (rest := [.int r]) ⟨hx, hb, hml, hown, hts⟩ (hm H.size) ⟨callB_of 0 hts (gTB0 q_M_publish) rfl hrM.1 hrM.2.1 (htb _ q4) (htb _ q784) hd_M_publish ⟨by show rmM.frames + 1 ≤ 12; have := hrM.2.2.1; omega, by show 8 + (4 + 11) + rmM.locals ≤ 440; have := hrM.2.2.2; omega⟩, (htb _ q785), (htb _ q786)⟩ ⟨rw_blind, va_recv hK0 (va_P_right hP) (ci := 3) (q0 := 0) rfl rfl, rw_pre hN (va_P_right hP) hKm (va_D_right hD)⟩ rfl rfl hl.1 rfl (lv_room (Nat.le_of_ble_eq_true rfl)) d_L_law_1008 ⟨hc.1, hc.2⟩) hP hD hS hA (fun r' u' H locs hu' hP hD hS => ?_)
  refine lv_icmp_eq (tgt := 1072) hx hb d_L_law_1011 (by decide) (fun _ => ?_) (fun h => absurd (hfin _ _ _ _ hu hu') h)
  replace hP : va_P D cls (wL ad ca am cm (P1 u) (Sx u) (G1 u) (P2 u') (G2 u') (X2 u') ao co vo) H := by rw [← wL_assoc]; exact hP
  replace hD : va_D (LA s) (wL ad ca am cm (P1 u) (Sx u) (G1 u) (P2 u') (G2 u') (X2 u') ao co vo) := by rw [← wL_assoc]; exact hD
  exact kk r u r' u' H locs ls hu hu' hP hD hS (lv_sub hl [0, 1, 2, 3, 4] rfl)
set_option maxHeartbeats 4000000 in
set_option maxRecDepth 100000 in
theorem tn_count {p : Program} {l : Launch} {e : Env} {s : State} {m : MethodId} {below : List Frame} {meth : Method} {c : Code} {b L : Nat} {xs : Nat → Int32} {H : Heap} {locs : List Loc} {cells slots : Nat} {Z : State → Prop} {ls : Array Slot} {D : va_G} {ad am : Nat → Nat} {ca cm : Nat → ClassId} {ao : Nat} {co : ClassId} {vo : Nat → Int64} {P S G X : Nat → Nat → Nat} {t : Nat} {S1 S2 : Type} {P1 Sx G1 : S1 → Nat → Nat → Nat} {P2 G2 X2 : S2 → Nat → Nat → Nat} {rmM : Room} {pw : S1 → Prop} {mc ms kx : Nat} {post2 : Int32 → S2 → Prop} {v1 : S1 → Nat → Int64} {z1 : Int32} (C : LC p s m meth c b L xs) (hK : LK D ca cm co s) (ht : 6 * t + 6 ≤ L) (hP : va_P D cls (wL ad ca am cm P S G P G X ao co vo) H) (hD : va_D (LA s) (wL ad ca am cm P S G P G X ao co vo)) (hS : va_S (LA s) s.heap H locs) (hl : lv_has ls 7 (lL b ad am ao t)) (hz1 : xs (6 * t + 1) = z1) (hc : cells + mc ≤ 1065 ∧ slots + ms ≤ 9580) (hw : ∀ sz, Met l y_L_count w_L_count { frames := 11, cells := mc, slots := ms, locals := 410 } (lw_PW [.ref (ad 0), .int (z1), .ref ao] D (wRo ad ca P S G ao co vo) (tRo ca co) sz) (rw_Qi (fun (r : Int32) (u : S1) => r = nI kx ∧ pw u) D (wRo ad ca P S G ao co vo) (fun u => wRo ad ca (P1 u) (Sx u) (G1 u) ao co (v1 u)) sz) mc ms (va_A (wRo ad ca P S G ao co vo) sz)) (hrM : rmM.cells = 0 ∧ rmM.slots = 0 ∧ rmM.frames ≤ 11 ∧ rmM.locals ≤ 400) (hm : ∀ sz, Met l y_M_count w_M_count rmM (rw_P [.ref (am 0), .int (z1)] D (wM am cm P G X) (tM cm) sz) (rw_Qi post2 D (wM am cm P G X) (fun u => wM am cm (P2 u) (G2 u) (X2 u)) sz) 0 0 (va_A (wM am cm P G X) sz)) (hkx : kx ≤ 4) (hfin : ∀ u r' u', pw u → post2 r' u' → X2 u' 0 0 = kx ∧ (kx = 0 → v1 u 0 = r'.toInt64)) (kk : ∀ (u : S1) (r' : Int32) (u' : S2) (H1 : Heap) (locs1 : List Loc) (ls1 : Array Slot), pw u → post2 r' u' → va_P D cls (wL ad ca am cm (P1 u) (Sx u) (G1 u) (P2 u') (G2 u') (X2 u') ao co (v1 u)) H1 → va_D (LA s) (wL ad ca am cm (P1 u) (Sx u) (G1 u) (P2 u') (G2 u') (X2 u') ao co (v1 u)) → va_S (LA s) s.heap H1 locs1 → lv_has ls1 7 (lL b ad am ao t) → W p l e room_1 s m #[Value.ref b] below meth c H1 locs1 (cells + mc) (slots + ms) Z (F0 m 1072 ls1 [])) : W p l e room_1 s m #[Value.ref b] below meth c H locs cells slots Z (F0 m 1016 ls []) := by
  obtain ⟨hx, hb, hr, hml, hown, hts, hN, hX, hCX, hV, hbl, hlocks, hL⟩ := C
  have htb := hts
  have hA : ∀ q : Nat, s.heap.size ≤ q → LA s q := fun q h => h
  have hbA : ¬ LA s b := Nat.not_le.mpr hbl
  obtain ⟨hK0, hKr, hKo, hK1, hKm⟩ := hK
  refine lv_aload_n hx hb d_L_law_1016 rfl (lv_at hl 1 rfl) ?_
  refine lv_aload_n hx hb d_L_law_1017 rfl (lv_at hl 0 rfl) ?_
  refine lv_iload hx hb d_L_law_1018 (lv_at hl 4 rfl) ?_
  refine nr_iconst hx hb 1 d_L_law_1020 (by decide) ?_
  refine nr_iadd hx hb d_L_law_1021 ?_
  refine va_sld hx hb hV hbl hbA hS (nI_in (c := 6 * t + 1) (by omega) (by omega)) d_L_law_1022 ?_
  refine nr_top (y := z1) ((congrArg xs (nI_clamp (by omega))).trans hz1) ?_
  refine lv_aload_n hx hb d_L_law_1023 rfl (lv_at hl 3 rfl) ?_
  replace hP : va_P D cls (wRo ad ca P S G ao co vo ++ wM am cm P G X) H := by rw [wL_assoc]; exact hP
  replace hD : va_D (LA s) (wRo ad ca P S G ao co vo ++ wM am cm P G X) := by rw [wL_assoc]; exact hD
  refine nr_callwiA (va_runSW (As := [.ref (ad 0), .int (z1), .ref ao]) (rest := []) ⟨hx, hb, hml, hown, hts⟩ (hw H.size) ⟨rfl, rfl⟩ ⟨Nat.le_of_ble_eq_true rfl, Nat.le_of_ble_eq_true rfl⟩ (pay_in hts (gTB0 q_L_count)) List.mem_cons_self (htb _ q566) (htb _ q567) (htb _ q0) ⟨hd_L_count.1, hd_L_count.2.1⟩ hd_L_count.2.2 ⟨lw_blind, fun U hU hW => ⟨rfl, by rw [hU], hN.warm hW, tx_law hX hS U hU hW, hCX.warm hW, by rw [hU]; exact va_P_left hP, va_K.moved hW.alike hKo, (va_D_left hD).weaken (fun _ _ _ _ => trivial)⟩⟩ rfl rfl hl.1 rfl (lv_room (Nat.le_of_ble_eq_true rfl)) d_L_law_1024 hc) hP hD hS hA (fun r u H locs hu hP hD hS => ?_)
  obtain ⟨rfl, hu⟩ := hu
  refine lv_istore (lv' := [(5, .int (nI kx)), (0, .ref b), (1, .ref (ad 0)), (2, .ref (am 0)), (3, .ref ao), (4, .int (nI (6 * t)))]) hx hb d_L_law_1027 hl (by decide) rfl (fun ls hl => ?_)
  refine lv_aload_n hx hb d_L_law_1029 rfl (lv_at hl 3 rfl) ?_
  refine lv_aload_n hx hb d_L_law_1030 rfl (lv_at hl 1 rfl) ?_
  refine lv_iload hx hb d_L_law_1031 (lv_at hl 5 rfl) ?_
  refine nr_iconst hx hb 1 d_L_law_1033 (by decide) ?_
  refine nr_iadd hx hb d_L_law_1034 ?_
  refine va_sld hx hb hV hbl hbA hS (nI_in (c := 6 * t + 1) (by omega) (by omega)) d_L_law_1035 ?_
  refine nr_top (y := z1) ((congrArg xs (nI_clamp (by omega))).trans hz1) ?_
  refine nr_callwiB (va_runV (As := [.int (z1)]) (rest := []) ⟨hx, hb, hml, hown, hts⟩ (hm H.size) ⟨callB_of 1 hts (gTB0 q_M_count) rfl hrM.1 hrM.2.1 (htb _ q4) (htb _ q788) hd_M_count ⟨by show rmM.frames + 1 ≤ 12; have := hrM.2.2.1; omega, by show 8 + (2 + 11) + rmM.locals ≤ 440; have := hrM.2.2.2; omega⟩, (htb _ q789), (htb _ q790)⟩ ⟨rw_blind, va_recv hK0 (va_P_right hP) (ci := 3) (q0 := 0) rfl rfl, rw_pre hN (va_P_right hP) hKm (va_D_right hD)⟩ rfl rfl hl.1 rfl (lv_room (Nat.le_of_ble_eq_true rfl)) d_L_law_1036 ⟨hc.1, hc.2⟩) hP hD hS hA (fun r' u' H locs hu' hP hD hS => ?_)
  refine lv_istore (lv' := [(6, .int r'), (5, .int (nI kx)), (0, .ref b), (1, .ref (ad 0)), (2, .ref (am 0)), (3, .ref ao), (4, .int (nI (6 * t)))]) hx hb d_L_law_1039 hl (by decide) rfl (fun ls hl => ?_)
  refine lv_aload_n hx hb d_L_law_1041 rfl (lv_at hl 4 rfl) ?_
  refine nr_calli (va_runV (As := []) (rest := []) ⟨hx, hb, hml, hown, hts⟩ (c_M_thrown l D am cm (P2 u') (G2 u') (X2 u')) ⟨callB_of 0 hts (gTB0 q_M_thrown) rfl rfl rfl (htb _ q4) (htb _ q658) hd_M_thrown ⟨by decide, by decide⟩, (htb _ q659), (htb _ q660)⟩ ⟨ro_blind, va_recv hK0 (va_P_right hP) (ci := 3) (q0 := 0) rfl rfl, ro_pre hN (va_P_right hP) hKm⟩ rfl rfl hl.1 rfl (lv_room (Nat.le_of_ble_eq_true rfl)) d_L_law_1042 ⟨hc.1, hc.2⟩) (fun r9 hr9 => ?_)
  subst hr9
  refine lv_iload hx hb d_L_law_1045 (lv_at hl 1 rfl) ?_
  have hf := hfin _ _ _ hu hu'
  refine nr_icmp_eq (tgt := 1052) hx hb (by omega) (by omega) d_L_law_1047 (by decide) (fun _ => ?_) (fun h => by exfalso; omega)
  replace hP : va_P D cls (wL ad ca am cm (P1 u) (Sx u) (G1 u) (P2 u') (G2 u') (X2 u') ao co (v1 u)) H := by rw [← wL_assoc]; exact hP
  replace hD : va_D (LA s) (wL ad ca am cm (P1 u) (Sx u) (G1 u) (P2 u') (G2 u') (X2 u') ao co (v1 u)) := by rw [← wL_assoc]; exact hD
  refine lv_iload hx hb d_L_law_1052 (lv_at hl 1 rfl) ?_
  refine nr_if_ne (tgt := 1069) hx hb (by omega) d_L_law_1054 (by decide) (fun _ => ?_) (fun h0 => ?_)
  · refine lv_goto (tgt := 1072) hx hb d_L_law_1069 (by decide) ?_
    exact kk u r' u' H locs ls hu hu' hP hD hS (lv_sub hl [2, 3, 4, 5, 6] rfl)
  · refine lv_aload_n hx hb d_L_law_1057 rfl (lv_at hl 5 rfl) ?_
    refine nr_iconst hx hb 0 d_L_law_1058 (by decide) ?_
    refine va_lald hx hb hK1 (va_P_left (va_P_right hP)) 0 0 rfl rfl (nI_in (by decide) (by decide)) d_L_law_1059 ?_
    refine lv_iload hx hb d_L_law_1060 (lv_at hl 0 rfl) ?_
    refine lv_i2l (v := r'.toInt64) hx hb d_L_law_1062 rfl ?_
    refine lv_lcmp_eq hx hb (hf.2 h0) d_L_law_1063 ?_
    refine lv_if_eq (tgt := 1069) hx hb d_L_law_1064 (by decide) (fun _ => ?_) (fun h => absurd rfl h)
    refine lv_goto (tgt := 1072) hx hb d_L_law_1069 (by decide) ?_
    exact kk u r' u' H locs ls hu hu' hP hD hS (lv_sub hl [2, 3, 4, 5, 6] rfl)

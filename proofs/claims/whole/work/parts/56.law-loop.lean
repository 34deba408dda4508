def R_law : String := "RosterSolveLaw"
def lw_P (b : Addr) (xs : List Int32) (args : Array Value) (s : State) : Prop := args = #[.ref b] ∧ s.IntsAt b xs ∧ xs.length ≤ 3072 ∧ (Jvm.Cond.and given_1 narrow_1).before args s = true
def lw_Q (_ : Array Value) (s : State) (o : Outcome) (t : State) : Prop := o = .returned (some (.int 1)) ∧ Framed s o t [] 1065 9580
def lw_Z (below : List Frame) (a : Array Value) (s : State) : State → Prop := fun t => ∃ o, t.status = .running ∧ Ended t below o ∧ lw_Q a s o t
/-- the law's own end, with 1 on the stack, nothing written that was there before, its room as the claim has it -/
theorem lw_ret {p : Program} {l : Launch} {e : Env} {s : State} {m : MethodId} {below : List Frame} {meth : Method} {c : Code} {b : Nat} (hx : p.tables.exec = Jvm.exec) (hb : c.code = code) (hr : meth.sig.returnType = ret) (hlocks : meth.locks = false) {pc : Nat} {H : Heap} {ls : Array Slot} (hdg : decode code pc = .ok (.ireturn, 1)) : W p l e room_1 s m #[Value.ref b] below meth c H [] 1065 9580 (lw_Z below #[Value.ref b] s) (F0 m pc ls [.int 1]) := by
  intro T hT X
  obtain ⟨fs, hret, hrun, hended, hW, hframe⟩ := X.leave (v := some (.int 1)) (hlocks := hlocks) (fun h => by rw [hr] at h; cases h)
  have hmeth' : T.vm.method? m = some meth := X.method'
  refine ⟨T.setFrames fs, ?_, .returned (some (.int 1)), hrun, hended, rfl, ⟨_, rfl⟩, hW, hframe⟩
  jvm_step X.here [X.here.top, hx, hb, hdg, hmeth', hr, ret, narrow_b1]
  (try refine ⟨rfl, ?_⟩); (try refine ⟨rfl, ?_⟩)
  first | (intro acts; rw [hret _ acts rfl rfl rfl]) | rw [hret _ _ rfl rfl rfl]
  exact Steps.refl _
/-- what holds at the law's entry: the machine, the code, the tables' words (any of lw_tbl by 'hts w (by decide +kernel)'), the script of L ints xs at the cell b, what the Statement gives of the start (any of its parts by flat_of_before) -/
def lw_At (p : Program) (s : State) (m : MethodId) (meth : Method) (c : Code) (b L : Nat) (xs : Nat → Int32) : Prop :=
  p.tables.exec = Jvm.exec ∧ c.code = code ∧ meth.sig.returnType = ret ∧ c.maxLocals = 7 ∧ s.vm.findClass R_law = some m.cls ∧ (∀ w ∈ lw_tbl, w.before #[Value.ref b] s = true) ∧ va_X b L xs s s.heap ∧ b < s.heap.size ∧ meth.locks = false ∧ (Jvm.Cond.and given_1 narrow_1).before #[Value.ref b] s = true
theorem and31 (x : Int32) : ∃ k, k < 32 ∧ x &&& nI 31 = nI k := by
  refine ⟨x.toBitVec.toNat &&& 31, Nat.lt_succ_of_le Nat.and_le_right, ?_⟩
  apply Int32.toBitVec_inj.1
  show x.toBitVec &&& BitVec.ofNat 32 31 = BitVec.ofNat 32 (x.toBitVec.toNat &&& 31)
  apply BitVec.eq_of_toNat_eq
  rw [BitVec.toNat_and, BitVec.toNat_ofNat, BitVec.toNat_ofNat]
  have h : x.toBitVec.toNat &&& 31 ≤ 31 := Nat.and_le_right
  rw [Nat.mod_eq_of_lt (by omega : 31 < 2 ^ 32), Nat.mod_eq_of_lt (by omega : x.toBitVec.toNat &&& 31 < 2 ^ 32)]
theorem gtL {L t : Nat} (hL : L ≤ 3072) (ht : t ≤ 600) : Int32.ofNat L - nI 6 < nI (6 * t) ↔ L < 6 * t + 6 := by
  rw [Int32.lt_iff_toInt_lt, Int32.toInt_sub, nI_toInt (by omega : 6 * t < 2 ^ 31), show (nI 6).toInt = 6 by decide, show (Int32.ofNat L).toInt = (L : Int) from nI_toInt (by omega)]
  simp only [Int.bmod]
  split <;> omega
set_option maxHeartbeats 4000000 in
set_option maxRecDepth 100000 in
theorem turn_any {p : Program} {l : Launch} {e : Env} {s : State} {m : MethodId} {below : List Frame} {meth : Method} {c : Code} {b L : Nat} {xs : Nat → Int32} {H : Heap} {locs : List Loc} {cells slots : Nat} {Z : State → Prop} {ls : Array Slot} {D : va_G} {ad am : Nat → Nat} {ca cm : Nat → ClassId} {ao : Nat} {co : ClassId} {vo : Nat → Int64} {P S G X : Nat → Nat → Nat} {t : Nat} (htr : l.stackTraces = false) (C : LC p s m meth c b L xs) (hK : LK D ca cm co s) (ht : 6 * t + 6 ≤ L) (hP : va_P D cls (wL ad ca am cm P S G P G X ao co vo) H) (hD : va_D (LA s) (wL ad ca am cm P S G P G X ao co vo)) (hS : va_S (LA s) s.heap H locs) (hl : lv_has ls 7 (lL b ad am ao t)) (hc : cells + 1 ≤ 1065 ∧ slots + 6 ≤ 9580) (J : Jn t P S G X) (KK : KT p l e s m below meth c b D ad am ca cm ao co t cells slots Z) : W p l e room_1 s m #[Value.ref b] below meth c H locs cells slots Z (F0 m 33 ls []) := by
  have C' := C
  obtain ⟨hx, hb, hr, hml, hown, hts, hN, hX, hCX, hV, hbl, hlocks, hL⟩ := C'
  have hbA : ¬ LA s b := Nat.not_le.mpr hbl
  refine lv_aload_n hx hb d_L_law_33 rfl (lv_at hl 0 rfl) ?_
  refine lv_iload hx hb d_L_law_34 (lv_at hl 4 rfl) ?_
  refine va_sld hx hb hV hbl hbA hS (nI_in (c := 6 * t) (by omega) (by omega)) d_L_law_36 ?_
  refine nr_bipush hx hb 31 d_L_law_37 (by decide) ?_
  refine lv_iand hx hb d_L_law_39 ?_
  obtain ⟨k, hk, e1⟩ := and31 (xs (nI (6 * t)).toNatClampNeg)
  refine nr_top (y := nI k) e1 ?_
  rcases (show k = 0 ∨ k = 1 ∨ k = 2 ∨ k = 3 ∨ k = 4 ∨ k = 5 ∨ k = 6 ∨ k = 7 ∨ k = 8 ∨ k = 9 ∨ k = 10 ∨ k = 11 ∨ k = 12 ∨ k = 13 ∨ k = 14 ∨ k = 15 ∨ k = 16 ∨ k = 17 ∨ 18 ≤ k by omega) with rfl | rfl | rfl | rfl | rfl | rfl | rfl | rfl | rfl | rfl | rfl | rfl | rfl | rfl | rfl | rfl | rfl | rfl | hk2
  · refine lv_tableIn (off := 88) (tgt := 128) hx hb d_L_law_40 (by decide) (by decide) rfl (by decide) ?_
    exact turn_days htr C hK ht hP hD hS hl hc J KK
  · refine lv_tableIn (off := 124) (tgt := 164) hx hb d_L_law_40 (by decide) (by decide) rfl (by decide) ?_
    exact turn_person htr C hK ht hP hD hS hl hc J KK
  · refine lv_tableIn (off := 192) (tgt := 232) hx hb d_L_law_40 (by decide) (by decide) rfl (by decide) ?_
    exact turn_need htr C hK ht hP hD hS hl hc J KK
  · refine lv_tableIn (off := 264) (tgt := 304) hx hb d_L_law_40 (by decide) (by decide) rfl (by decide) ?_
    exact turn_rules htr C hK ht hP hD hS hl hc J KK
  · refine lv_tableIn (off := 324) (tgt := 364) hx hb d_L_law_40 (by decide) (by decide) rfl (by decide) ?_
    exact turn_bar htr C hK ht hP hD hS hl hc J KK
  · refine lv_tableIn (off := 412) (tgt := 452) hx hb d_L_law_40 (by decide) (by decide) rfl (by decide) ?_
    exact turn_wish htr C hK ht hP hD hS hl hc J KK
  · refine lv_tableIn (off := 532) (tgt := 572) hx hb d_L_law_40 (by decide) (by decide) rfl (by decide) ?_
    exact turn_freeze htr C hK ht hP hD hS hl hc J KK
  · refine lv_tableIn (off := 568) (tgt := 608) hx hb d_L_law_40 (by decide) (by decide) rfl (by decide) ?_
    exact turn_set htr C hK ht hP hD hS hl hc J KK
  · refine lv_tableIn (off := 628) (tgt := 668) hx hb d_L_law_40 (by decide) (by decide) rfl (by decide) ?_
    exact turn_solve htr C hK ht hP hD hS hl hc J KK
  · refine lv_tableIn (off := 684) (tgt := 724) hx hb d_L_law_40 (by decide) (by decide) rfl (by decide) ?_
    exact turn_solved htr C hK ht hP hD hS hl hc J KK
  · refine lv_tableIn (off := 740) (tgt := 780) hx hb d_L_law_40 (by decide) (by decide) rfl (by decide) ?_
    exact turn_swap htr C hK ht hP hD hS hl hc J KK
  · refine lv_tableIn (off := 800) (tgt := 840) hx hb d_L_law_40 (by decide) (by decide) rfl (by decide) ?_
    exact turn_shift htr C hK ht hP hD hS hl hc J KK
  · refine lv_tableIn (off := 868) (tgt := 908) hx hb d_L_law_40 (by decide) (by decide) rfl (by decide) ?_
    exact turn_wrong htr C hK ht hP hD hS hl hc J KK
  · refine lv_tableIn (off := 881) (tgt := 921) hx hb d_L_law_40 (by decide) (by decide) rfl (by decide) ?_
    exact turn_unmet htr C hK ht hP hD hS hl hc J KK
  · refine lv_tableIn (off := 894) (tgt := 934) hx hb d_L_law_40 (by decide) (by decide) rfl (by decide) ?_
    exact turn_cost htr C hK ht hP hD hS hl hc J KK
  · refine lv_tableIn (off := 907) (tgt := 947) hx hb d_L_law_40 (by decide) (by decide) rfl (by decide) ?_
    exact turn_share htr C hK ht hP hD hS hl hc J KK
  · refine lv_tableIn (off := 963) (tgt := 1003) hx hb d_L_law_40 (by decide) (by decide) rfl (by decide) ?_
    exact turn_publish htr C hK ht hP hD hS hl hc J KK
  · refine lv_tableIn (off := 976) (tgt := 1016) hx hb d_L_law_40 (by decide) (by decide) rfl (by decide) ?_
    exact turn_count htr C hK ht hP hD hS hl hc J KK
  · refine lv_tableOut (tgt := 1072) hx hb d_L_law_40 (Or.inr (by rw [nI_toInt (by omega)]; omega)) (by decide) ?_
    exact KK _ _ _ _ _ _ _ _ _ _ (by omega) (by omega) (jn_to_next J) hP hD hS hl
set_option maxHeartbeats 4000000 in
set_option maxRecDepth 100000 in
theorem law_loop {p : Program} {l : Launch} {e : Env} {s : State} {m : MethodId} {below : List Frame} {meth : Method} {c : Code} {b L : Nat} {xs : Nat → Int32} {D : va_G} {ad am : Nat → Nat} {ca cm : Nat → ClassId} {ao : Nat} {co : ClassId} (htr : l.stackTraces = false) (C : LC p s m meth c b L xs) (hK : LK D ca cm co s) : ∀ (n t : Nat), n + t = L / 6 → ∀ (P S G X : Nat → Nat → Nat) (vo : Nat → Int64) (H : Heap) (locs : List Loc) (ls : Array Slot) (cells slots : Nat), cells ≤ 100 + t → slots ≤ 6000 + 6 * t → Jn t P S G X → va_P D cls (wL ad ca am cm P S G P G X ao co vo) H → va_D (LA s) (wL ad ca am cm P S G P G X ao co vo) → va_S (LA s) s.heap H locs → lv_has ls 7 (lL b ad am ao t) → W p l e room_1 s m #[Value.ref b] below meth c H locs cells slots (lw_Z below #[Value.ref b] s) (F0 m 23 ls []) := by
  have C' := C
  obtain ⟨hx, hb, hr, hml, hown, hts, hN, hX, hCX, hV, hbl, hlocks, hL⟩ := C'
  have hbA : ¬ LA s b := Nat.not_le.mpr hbl
  intro n
  induction n with
  | zero =>
    intro t hn P S G X vo H locs ls cells slots hc hs J hP hD hS hl
    refine lv_iload hx hb d_L_law_23 (lv_at hl 4 rfl) ?_
    refine lv_aload_n hx hb d_L_law_25 rfl (lv_at hl 0 rfl) ?_
    refine va_slen hx hb hV hbl hbA hS d_L_law_26 ?_
    refine nr_bipush hx hb 6 d_L_law_27 (by decide) ?_
    refine lv_isub hx hb d_L_law_29 ?_
    refine lv_icmp_gt (tgt := 1078) hx hb d_L_law_30 (by decide) (fun _ => ?_) (fun h => absurd ((gtL hL (by omega)).mpr (by omega)) h)
    refine nr_fresh (fun x hx => hS.2.2 x hx) ?_
    refine nr_up (cells2 := 1065) (slots2 := 9580) (by omega) (by omega) ?_
    refine lv_iconst (v := 1) hx hb d_L_law_1078 (by decide) ?_
    exact lw_ret hx hb hr hlocks d_L_law_1079
  | succ n ih =>
    intro t hn P S G X vo H locs ls cells slots hc hs J hP hD hS hl
    have ht : 6 * t + 6 ≤ L := by omega
    refine lv_iload hx hb d_L_law_23 (lv_at hl 4 rfl) ?_
    refine lv_aload_n hx hb d_L_law_25 rfl (lv_at hl 0 rfl) ?_
    refine va_slen hx hb hV hbl hbA hS d_L_law_26 ?_
    refine nr_bipush hx hb 6 d_L_law_27 (by decide) ?_
    refine lv_isub hx hb d_L_law_29 ?_
    refine lv_icmp_gt (tgt := 1078) hx hb d_L_law_30 (by decide) (fun h => absurd ((gtL hL (by omega)).mp h) (by omega)) (fun _ => ?_)
    refine turn_any htr C hK ht hP hD hS hl (by omega) J ?_
    intro P' S' G' X' vo' H1 locs1 ls1 cells1 slots1 hc1 hs1 J' hP' hD' hS' hl'
    refine lv_iinc (v := nI (6 * (t + 1))) (lv' := [(4, .int (nI (6 * (t + 1)))), (0, .ref b), (1, .ref (ad 0)), (2, .ref (am 0)), (3, .ref ao)]) hx hb d_L_law_1072 hl' (k := 4) rfl ((nI_add (6 * t) 6).trans (congrArg nI (by omega))) (by decide) rfl (fun ls hl => ?_)
    refine lv_goto (tgt := 23) hx hb d_L_law_1075 (by decide) ?_
    exact ih (t + 1) (by omega) P' S' G' X' vo' H1 locs1 ls cells1 slots1 (by omega) (by omega) J' hP' hD' hS' (lv_sub hl [1, 2, 3, 4, 0] rfl)

/-! solve keeps what stands behind every turn -/
theorem up1_out {P : Nat → Nat → Nat} {tr : Nat → Nat} {d p s : Nat} (h6 : P 0 0 ≤ 6) (hp : p < P 0 0) (hd : d < P 0 1) (h : ∀ j, ¬ (j % 6 < P 0 0 ∧ j / 6 < P 0 1) → tr j = 0) : ∀ j, ¬ (j % 6 < P 0 0 ∧ j / 6 < P 0 1) → up1 tr (d * 6 + p) s j = 0 := by
  intro j hj
  unfold up1
  split
  · exact absurd ⟨by omega, by omega⟩ hj
  · exact h j hj
theorem srch_out {P : Nat → Nat → Nat} {ro : Nat → Nat} {fz lim : Nat} (h6 : P 0 0 ≤ 6) : ∀ k d p nx st rt le tr be, p < P 0 0 → d < P 0 1 → (∀ j, ¬ (j % 6 < P 0 0 ∧ j / 6 < P 0 1) → tr j = 0) → (∀ j, ¬ (j % 6 < P 0 0 ∧ j / 6 < P 0 1) → be j = 0) → ∀ j, ¬ (j % 6 < P 0 0 ∧ j / 6 < P 0 1) → (srch P ro fz lim k d p nx st rt le tr be).2.2.2.2 j = 0 := by
  intro k
  induction k with
  | zero => intro d p nx st rt le tr be hp hd ht hb; exact hb
  | succ k ih =>
    intro d p nx st rt le tr be hp hd ht hb
    have hu := up1_out (s := if d < fz then ro (d * 6 + p) else nx) h6 hp hd ht
    rw [srch]
    by_cases h1 : (if d < fz then 0 < nx else 3 < nx)
    · rw [if_pos h1]
      by_cases h2 : p = 0
      · rw [if_pos h2]
        by_cases h3 : d = 0
        · rw [if_pos h3]; exact hb
        · rw [if_neg h3]; exact ih _ _ _ _ _ _ _ _ (by omega) (by omega) ht hb
      · rw [if_neg h2]; exact ih _ _ _ _ _ _ _ _ (by omega) hd ht hb
    · rw [if_neg h1]
      by_cases h2 : st = lim
      · rw [if_pos h2]; exact hb
      · rw [if_neg h2]
        by_cases h3 : gu P (up1 tr (d * 6 + p) (if d < fz then ro (d * 6 + p) else nx)) d p rt le = true
        · rw [if_pos h3]; exact ih _ _ _ _ _ _ _ _ hp hd hu hb
        · rw [if_neg h3]
          by_cases h4 : p = P 0 0 - 1
          · rw [if_pos h4]
            by_cases h5 : d = P 0 1 - 1
            · rw [if_pos h5]; exact ih _ _ _ _ _ _ _ _ hp hd hu hu
            · rw [if_neg h5]; exact ih _ _ _ _ _ _ _ _ (by omega) (by omega) hu hb
          · rw [if_neg h4]; exact ih _ _ _ _ _ _ _ _ (by omega) hd hu hb
theorem slv_out {P : Nat → Nat → Nat} {ro : Nat → Nat} {fz lim : Nat} (h6 : P 0 0 ≤ 6) (hro : ∀ j, ¬ (j % 6 < P 0 0 ∧ j / 6 < P 0 1) → ro j = 0) : ∀ j, ¬ (j % 6 < P 0 0 ∧ j / 6 < P 0 1) → (slv P ro fz lim).2.2.2.2 j = 0 := by
  unfold slv
  by_cases hz : P 0 0 = 0 ∨ P 0 1 = 0
  · rw [if_pos hz]
    by_cases hn : needFault P ro = 0
    · rw [if_pos hn]; exact hro
    · rw [if_neg hn]; exact hro
  · rw [if_neg hz]
    exact srch_out h6 _ _ _ _ _ _ _ _ _ (by omega) (by omega) (fun _ _ => rfl) (fun _ _ => rfl)
theorem jn_to_solve {t lim : Nat} {P S G X uS uX : Nat → Nat → Nat} {r : Int32} (h : Jn t P S G X) (hs : ranS uS (slv P (G 1) (G 0 0) lim)) (hx : solM X uX (slv P (G 1) (G 0 0) lim) r) : Jn t P uS (svG G (slv P (G 1) (G 0 0) lim)) uX := by
  obtain ⟨j_oP, j_oS, j_oG, j_oX, j_wi, j_b0, j_out, j_ed, j_x1, j_x2, j_x3⟩ := id h
  obtain ⟨s1, s2, s3, s4, s5⟩ := hs
  obtain ⟨m1, m2, m3, m4, m5, m6, m7, m8⟩ := hx
  have hso := slv_out (P := P) (ro := G 1) (fz := G 0 0) (lim := lim) j_oP.1 j_out
  have hb : svG G (slv P (G 1) (G 0 0) lim) 0 = G 0 ∧ svG G (slv P (G 1) (G 0 0) lim) 2 = G 2 ∧ (∀ k, svG G (slv P (G 1) (G 0 0) lim) 1 k ≤ 3) ∧ (∀ k, ¬ (k % 6 < P 0 0 ∧ k / 6 < P 0 1) → svG G (slv P (G 1) (G 0 0) lim) 1 k = 0) := by
    unfold svG
    by_cases hz : 0 < (slv P (G 1) (G 0 0) lim).2.2.1
    · rw [if_pos hz]
      refine ⟨rfl, rfl, fun k => ?_, fun k hk => hso k hk⟩
      show (slv P (G 1) (G 0 0) lim).2.2.2.2 k ≤ 3
      rw [← (s5 hz).2]
      exact s1.2.2.2.2.2.2.2.1 k
    · rw [if_neg hz]
      exact ⟨rfl, rfl, j_oG.2.2.1, j_out⟩
  obtain ⟨b0, b2, b3, b4⟩ := hb
  refine ⟨j_oP, s1, ⟨?_, ?_, b3, ?_⟩, m1, wi_X j_wi m7, j_b0, b4, ?_, m2.trans s2.symm, m3.trans s3.symm, m4.trans s4.symm⟩
  · rw [b0]; exact j_oG.1
  · rw [b0]; exact j_oG.2.1
  · rw [b2]; exact j_oG.2.2.2
  · rw [b0]; exact j_ed
/-- both sides answer a solve alike -/
theorem sol_eq {X uS uX : Nat → Nat → Nat} {F : Nat × Nat × Nat × Nat × (Nat → Nat)} {r1 r2 : Int32} (h1 : solR uS F r1) (h2 : solM X uX F r2) : r1 = r2 := by
  rcases Nat.eq_zero_or_pos F.2.2.1 with h | h
  · rw [h1.2.2 h, h2.2.2.2.2.2.1 h]
  · rw [h1.2.1 h, (h2.2.2.2.2.1 h).1]

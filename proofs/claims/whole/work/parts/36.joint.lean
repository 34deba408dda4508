/-! The two sides: what stands behind every turn; t turns are over. -/
def Jn (t : Nat) (P S G X : Nat → Nat → Nat) : Prop := (okP P) ∧ (okS S) ∧ (okG G) ∧ (okX X) ∧ (Wi P X) ∧ (∀ c, P 5 (c * 4) = 0) ∧ (∀ k, ¬ (k % 6 < P 0 0 ∧ k / 6 < P 0 1) → G 1 k = 0) ∧ (G 0 1 ≤ t) ∧ (X 0 1 = S 0 6) ∧ (X 0 2 = S 0 2) ∧ (X 0 3 = S 0 3)
theorem jn_oP {t : Nat} {P S G X : Nat → Nat → Nat} (h : Jn t P S G X) : okP P := h.1
theorem jn_oS {t : Nat} {P S G X : Nat → Nat → Nat} (h : Jn t P S G X) : okS S := h.2.1
theorem jn_oG {t : Nat} {P S G X : Nat → Nat → Nat} (h : Jn t P S G X) : okG G := h.2.2.1
theorem jn_oX {t : Nat} {P S G X : Nat → Nat → Nat} (h : Jn t P S G X) : okX X := h.2.2.2.1
theorem jn_wi {t : Nat} {P S G X : Nat → Nat → Nat} (h : Jn t P S G X) : Wi P X := h.2.2.2.2.1
theorem jn_b0 {t : Nat} {P S G X : Nat → Nat → Nat} (h : Jn t P S G X) : ∀ c, P 5 (c * 4) = 0 := h.2.2.2.2.2.1
theorem jn_out {t : Nat} {P S G X : Nat → Nat → Nat} (h : Jn t P S G X) : ∀ k, ¬ (k % 6 < P 0 0 ∧ k / 6 < P 0 1) → G 1 k = 0 := h.2.2.2.2.2.2.1
theorem jn_ed {t : Nat} {P S G X : Nat → Nat → Nat} (h : Jn t P S G X) : G 0 1 ≤ t := h.2.2.2.2.2.2.2.1
theorem jn_x1 {t : Nat} {P S G X : Nat → Nat → Nat} (h : Jn t P S G X) : X 0 1 = S 0 6 := h.2.2.2.2.2.2.2.2.1
theorem jn_x2 {t : Nat} {P S G X : Nat → Nat → Nat} (h : Jn t P S G X) : X 0 2 = S 0 2 := h.2.2.2.2.2.2.2.2.2.1
theorem jn_x3 {t : Nat} {P S G X : Nat → Nat → Nat} (h : Jn t P S G X) : X 0 3 = S 0 3 := h.2.2.2.2.2.2.2.2.2.2
theorem wM_congr {am : Nat → Nat} {cm : Nat → ClassId} {P Q G X : Nat → Nat → Nat} (h : ∀ r, r < 6 → P r = Q r) : wM am cm P G X = wM am cm Q G X := by
  simp only [wM, h 0 (by decide), h 1 (by decide), h 2 (by decide), h 3 (by decide), h 4 (by decide), h 5 (by decide)]
theorem okx_c {X : Nat → Nat → Nat} {c : Nat} (h : okX X) (hc : c ≤ 4) : okX (up2 X 0 0 c) := by
  obtain ⟨x00, x01, x02, x03, hx1, hx2, hx3, hx4, hx5, hx6, hx7⟩ := h
  exact ⟨hc, x01, x02, x03, hx1, hx2, hx3, hx4, hx5, hx6, hx7⟩
theorem r3_c {X : Nat → Nat → Nat} {c : Nat} : ∀ r, 3 ≤ r → up2 X 0 0 c r = X r := fun r hr => by funext k; simp [up2, show ¬ r = 0 by omega]
section JN
variable {t : Nat} {P S G X : Nat → Nat → Nat}
theorem jn_to_code (h : Jn t P S G X) {c : Nat} (hc : c ≤ 4) : Jn t P S G (up2 X 0 0 c) := by
  obtain ⟨j_oP, j_oS, j_oG, j_oX, j_wi, j_b0, j_out, j_ed, j_x1, j_x2, j_x3⟩ := id h
  exact ⟨j_oP, j_oS, j_oG, okx_c j_oX hc, wi_X j_wi r3_c, j_b0, j_out, j_ed, j_x1, j_x2, j_x3⟩
theorem jn_to_next (h : Jn t P S G X) : Jn (t + 1) P S G X := by
  obtain ⟨j_oP, j_oS, j_oG, j_oX, j_wi, j_b0, j_out, j_ed, j_x1, j_x2, j_x3⟩ := id h
  exact ⟨j_oP, j_oS, j_oG, j_oX, j_wi, j_b0, j_out, Nat.le_succ_of_le j_ed, j_x1, j_x2, j_x3⟩
theorem jn_to_days (h : Jn t P S G X) {d : Nat} (hd : d ≤ 7) : Jn t (sdP P d) S (upr (up2 G 0 0 0) 1 (fun _ => 0)) X := by
  obtain ⟨j_oP, j_oS, j_oG, j_oX, j_wi, j_b0, j_out, j_ed, j_x1, j_x2, j_x3⟩ := id h
  obtain ⟨h00, h01, h02, h03, h04, h05, hp1, hp2, hp3, hp4, hp5, hp6⟩ := j_oP
  obtain ⟨k00, k01, hg1, hg2⟩ := j_oG
  exact ⟨⟨h00, hd, h02, h03, h04, Nat.zero_le _, hp1, hp2, fun _ => Nat.zero_le _, fun _ => by show 0 < 16; decide, fun _ => Nat.zero_le _, fun _ => Nat.zero_le _⟩, j_oS, ⟨Nat.zero_le _, k01, fun _ => Nat.zero_le _, hg2⟩, j_oX, wi_days, fun _ => rfl, fun _ _ => rfl, j_ed, j_x1, j_x2, j_x3⟩
theorem jn_to_person (h : Jn t P S G X) {x y : Nat} (hx : x ≤ 15) (hy : y ≤ 10000) (hn : P 0 0 < 6) : Jn t (up2 (up2 (up2 P 1 (P 0 0) x) 2 (P 0 0) y) 0 0 (P 0 0 + 1)) S G X := by
  obtain ⟨j_oP, j_oS, j_oG, j_oX, j_wi, j_b0, j_out, j_ed, j_x1, j_x2, j_x3⟩ := id h
  obtain ⟨h00, h01, h02, h03, h04, h05, hp1, hp2, hp3, hp4, hp5, hp6⟩ := j_oP
  refine ⟨⟨hn, h01, h02, h03, h04, h05, fun k => ?_, fun k => ?_, hp3, hp4, hp5, hp6⟩, j_oS, j_oG, j_oX, wi_person j_wi, j_b0, fun k hk => j_out k (fun h2 => hk ⟨show k % 6 < P 0 0 + 1 from Nat.lt_succ_of_lt h2.1, h2.2⟩), j_ed, j_x1, j_x2, j_x3⟩
  · show (if k = P 0 0 then x else P 1 k) < 16
    split
    · omega
    · exact hp1 k
  · show (if k = P 0 0 then y else P 2 k) ≤ 10000
    split
    · exact hy
    · exact hp2 k
theorem jn_to_need (h : Jn t P S G X) {c x y : Nat} (hx : x ≤ 6) (hy : y ≤ 15) : Jn t (up2 (up2 P 3 c x) 4 c y) S G X := by
  obtain ⟨j_oP, j_oS, j_oG, j_oX, j_wi, j_b0, j_out, j_ed, j_x1, j_x2, j_x3⟩ := id h
  obtain ⟨h00, h01, h02, h03, h04, h05, hp1, hp2, hp3, hp4, hp5, hp6⟩ := j_oP
  refine ⟨⟨h00, h01, h02, h03, h04, h05, hp1, hp2, fun k => ?_, fun k => ?_, hp5, hp6⟩, j_oS, j_oG, j_oX, j_wi, j_b0, j_out, j_ed, j_x1, j_x2, j_x3⟩
  · show (if k = c then x else P 3 k) ≤ 6
    split
    · exact hx
    · exact hp3 k
  · show (if k = c then y else P 4 k) < 16
    split
    · omega
    · exact hp4 k
theorem jn_to_rules (h : Jn t P S G X) {x y z : Nat} (hx : x ≤ 24) (hy : y ≤ 7) (hz : z ≤ 7) : Jn t (up2 (up2 (up2 P 0 2 x) 0 3 y) 0 4 z) S G X := by
  obtain ⟨j_oP, j_oS, j_oG, j_oX, j_wi, j_b0, j_out, j_ed, j_x1, j_x2, j_x3⟩ := id h
  obtain ⟨h00, h01, h02, h03, h04, h05, hp1, hp2, hp3, hp4, hp5, hp6⟩ := j_oP
  exact ⟨⟨h00, h01, hx, hy, hz, h05, hp1, hp2, hp3, hp4, hp5, hp6⟩, j_oS, j_oG, j_oX, j_wi, j_b0, j_out, j_ed, j_x1, j_x2, j_x3⟩
theorem jn_to_bar (h : Jn t P S G X) {c sf b : Nat} (hs1 : 1 ≤ sf) (hs3 : sf ≤ 3) (hb : b ≤ 1) : Jn t (up2 P 5 (c * 4 + sf) b) S G X := by
  obtain ⟨j_oP, j_oS, j_oG, j_oX, j_wi, j_b0, j_out, j_ed, j_x1, j_x2, j_x3⟩ := id h
  obtain ⟨h00, h01, h02, h03, h04, h05, hp1, hp2, hp3, hp4, hp5, hp6⟩ := j_oP
  refine ⟨⟨h00, h01, h02, h03, h04, h05, hp1, hp2, hp3, hp4, fun k => ?_, hp6⟩, j_oS, j_oG, j_oX, j_wi, fun k => ?_, j_out, j_ed, j_x1, j_x2, j_x3⟩
  · show (if k = c * 4 + sf then b else P 5 k) ≤ 1
    split
    · exact hb
    · exact hp5 k
  · show (if k * 4 = c * 4 + sf then b else P 5 (k * 4)) = 0
    rw [if_neg (by omega)]
    exact j_b0 k
theorem jn_to_freeze (h : Jn t P S G X) {x : Nat} (hx : x ≤ 7) : Jn t P S (up2 G 0 0 x) X := by
  obtain ⟨j_oP, j_oS, j_oG, j_oX, j_wi, j_b0, j_out, j_ed, j_x1, j_x2, j_x3⟩ := id h
  obtain ⟨k00, k01, hg1, hg2⟩ := j_oG
  exact ⟨j_oP, j_oS, ⟨hx, k01, hg1, hg2⟩, j_oX, j_wi, j_b0, j_out, j_ed, j_x1, j_x2, j_x3⟩
theorem jn_to_set (h : Jn t P S G X) {p d sf : Nat} (hp : p < P 0 0) (hd : d < P 0 1) (hs : sf ≤ 3) : Jn t P S (up2 G 1 (d * 6 + p) sf) X := by
  obtain ⟨j_oP, j_oS, j_oG, j_oX, j_wi, j_b0, j_out, j_ed, j_x1, j_x2, j_x3⟩ := id h
  obtain ⟨k00, k01, hg1, hg2⟩ := j_oG
  have h6 := j_oP.1
  refine ⟨j_oP, j_oS, ⟨k00, k01, fun k => ?_, hg2⟩, j_oX, j_wi, j_b0, fun k hk => ?_, j_ed, j_x1, j_x2, j_x3⟩
  · show (if k = d * 6 + p then sf else G 1 k) ≤ 3
    split
    · exact hs
    · exact hg1 k
  · show (if k = d * 6 + p then sf else G 1 k) = 0
    split
    · rename_i he
      exact absurd ⟨by omega, by omega⟩ hk
    · exact j_out k hk
theorem jn_to_swap (h : Jn t P S G X) {p q d : Nat} (hp : p < P 0 0) (hq : q < P 0 0) (hd : d < P 0 1) : Jn t P S (swG G (d * 6 + p) (d * 6 + q)) X := by
  obtain ⟨j_oP, j_oS, j_oG, j_oX, j_wi, j_b0, j_out, j_ed, j_x1, j_x2, j_x3⟩ := id h
  have h6 := j_oP.1
  refine ⟨j_oP, j_oS, okg_sw j_oG, j_oX, j_wi, j_b0, fun k hk => ?_, j_ed, j_x1, j_x2, j_x3⟩
  show (if k = d * 6 + q then G 1 (d * 6 + p) else if k = d * 6 + p then G 1 (d * 6 + q) else G 1 k) = 0
  split
  · exact absurd ⟨by omega, by omega⟩ hk
  · split
    · exact absurd ⟨by omega, by omega⟩ hk
    · exact j_out k hk
theorem jn_to_publish (h : Jn t P S G X) (ht : t < 100000) : Jn (t + 1) P S (up2 (upr G 2 (G 1)) 0 1 (G 0 1 + 1)) X := by
  obtain ⟨j_oP, j_oS, j_oG, j_oX, j_wi, j_b0, j_out, j_ed, j_x1, j_x2, j_x3⟩ := id h
  obtain ⟨k00, k01, hg1, hg2⟩ := j_oG
  have := j_ed
  exact ⟨j_oP, j_oS, ⟨k00, by show G 0 1 + 1 ≤ 100000; omega, hg1, hg1⟩, j_oX, j_wi, j_b0, j_out, by show G 0 1 + 1 ≤ t + 1; omega, j_x1, j_x2, j_x3⟩
theorem jn_to_wish (h : Jn t P S G X) {p d sf b wt : Nat} (hp : p < P 0 0) (hd : d < P 0 1) (hs : sf ≤ 3) (hb : b ≤ 1) (hw : wt ≤ 100) (h20 : P 0 5 < 20) : Jn t (wP6 P p d sf b wt) S G (wX X (P 0 5) p d sf b wt) := by
  obtain ⟨j_oP, j_oS, j_oG, j_oX, j_wi, j_b0, j_out, j_ed, j_x1, j_x2, j_x3⟩ := id h
  have hw0 := wi_wish (sf := sf) (b := b) (wt := wt) j_wi hp hd
  obtain ⟨h00, h01, h02, h03, h04, h05, hp1, hp2, hp3, hp4, hp5, hp6⟩ := j_oP
  obtain ⟨x00, x01, x02, x03, hx1, hx2, hx3, hx4, hx5, hx6, hx7⟩ := j_oX
  have e : ∀ r, r < 6 → wP6 P p d sf b wt r = up2 P 0 5 (P 0 5 + 1) r := fun r hr => wP6_r hr
  have hXo : okX (wX X (P 0 5) p d sf b wt) := by
    refine ⟨Nat.zero_le _, x01, x02, x03, hx1, hx2, fun k => ?_, fun k => ?_, fun k => ?_, fun k => ?_, fun k => ?_⟩
    · show (if k = P 0 5 then p else X 3 k) ≤ 5
      split
      · omega
      · exact hx3 k
    · show (if k = P 0 5 then d else X 4 k) ≤ 6
      split
      · omega
      · exact hx4 k
    · show (if k = P 0 5 then sf else X 5 k) ≤ 3
      split
      · exact hs
      · exact hx5 k
    · show (if k = P 0 5 then b else X 6 k) ≤ 1
      split
      · exact hb
      · exact hx6 k
    · show (if k = P 0 5 then wt else X 7 k) ≤ 100
      split
      · exact hw
      · exact hx7 k
  have e05 : wP6 P p d sf b wt 0 5 = P 0 5 + 1 := congrFun (e 0 (by decide)) 5
  refine ⟨⟨?_, ?_, ?_, ?_, ?_, ?_, ?_, ?_, ?_, ?_, ?_, fun k => ?_⟩, j_oS, j_oG, hXo, hw0, ?_, ?_, j_ed, j_x1, j_x2, j_x3⟩
  · rw [e 0 (by decide)]; exact h00
  · rw [e 0 (by decide)]; exact h01
  · rw [e 0 (by decide)]; exact h02
  · rw [e 0 (by decide)]; exact h03
  · rw [e 0 (by decide)]; exact h04
  · rw [e05]; omega
  · rw [e 1 (by decide)]; exact hp1
  · rw [e 2 (by decide)]; exact hp2
  · rw [e 3 (by decide)]; exact hp3
  · rw [e 4 (by decide)]; exact hp4
  · rw [e 5 (by decide)]; exact hp5
  · rw [show k = k / 4 * 4 + k % 4 by omega, hw0.2 (k / 4) (k % 4) (by omega), e05]
    have hl := sm_le (f := wc (wX X (P 0 5) p d sf b wt) (k / 4) (k % 4)) (fun w => by
      have := hXo.2.2.2.2.2.2.2.2.2.2 w
      unfold wc
      by_cases hc : k / 4 = wX X (P 0 5) p d sf b wt 4 w * 6 + wX X (P 0 5) p d sf b wt 3 w ∧ (if k % 4 = wX X (P 0 5) p d sf b wt 5 w then 1 else 0) ≠ wX X (P 0 5) p d sf b wt 6 w
      · rw [if_pos hc]; exact this
      · rw [if_neg hc]; omega) (P 0 5 + 1)
    omega
  · rw [e 5 (by decide)]; exact j_b0
  · rw [e 0 (by decide)]; exact j_out
end JN

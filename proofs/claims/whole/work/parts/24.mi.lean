theorem last_iff {d n p m : Nat} (hp : p < n) (hd : d < m) : d * n + p = n * m - 1 ↔ (p = n - 1 ∧ d = m - 1) := by
  have e : n * m = (m - 1) * n + n := by rw [Nat.mul_comm]; exact mul_pred (by omega)
  constructor
  · intro h
    by_cases hd2 : d = m - 1
    · subst hd2; omega
    · have h2 : (d + 1) * n ≤ (m - 1) * n := Nat.mul_le_mul_right n (by omega)
      rw [Nat.add_mul, Nat.one_mul] at h2
      omega
  · rintro ⟨h1, h2⟩
    subst h2
    omega
theorem utl_congr {P X Y : Nat → Nat → Nat} {sh : Nat → Nat} {pl : Nat} (h : ∀ r, 3 ≤ r → Y r = X r) : ∀ k w acc, utl P Y sh pl k w acc = utl P X sh pl k w acc := by
  intro k
  induction k with
  | zero => intro w acc; rfl
  | succ k ih => intro w acc; rw [utl, utl, h 3 (by decide), h 4 (by decide), h 5 (by decide), h 6 (by decide), h 7 (by decide)]; exact ih _ _
theorem utM_congr {P X Y : Nat → Nat → Nat} {sh : Nat → Nat} {pl : Nat} (h : ∀ r, 3 ≤ r → Y r = X r) : utM P Y sh pl = utM P X sh pl := utl_congr h _ _ _
/-- the reference's search: its memory X1 (X at the start), its least as an int -/
def Mi (lim : Nat) (X X1 : Nat → Nat → Nat) (st rt le : Nat) (lv : Int32) (be : Nat → Nat) : Prop := okX X1 ∧ X1 0 2 = st ∧ X1 0 3 = rt ∧ X1 0 1 = 1 ∧ X1 0 0 = X 0 0 ∧ ((rt = 0 ∧ lv = -1) ∨ (0 < rt ∧ le ≤ 100000 ∧ lv = nI le)) ∧ (0 < rt → X1 2 = be) ∧ (∀ r, 3 ≤ r → X1 r = X r) ∧ (rt ≤ st ∧ st ≤ lim ∧ lim ≤ 20000)
def gotX (X u : Nat → Nat → Nat) (F : Nat × Nat × Nat × Nat × (Nat → Nat)) (r : Int32) : Prop := okX u ∧ u 0 1 = 1 - F.1 ∧ u 0 2 = F.2.1 ∧ u 0 3 = F.2.2.1 ∧ (0 < F.2.2.1 → r = nI F.2.2.2.1 ∧ u 2 = F.2.2.2.2 ∧ F.2.2.2.1 ≤ 100000) ∧ (F.2.2.1 = 0 → r = -1) ∧ (∀ k, 3 ≤ k → u k = X k) ∧ u 0 0 = X 0 0
theorem mi_start {X : Nat → Nat → Nat} {lim : Nat} (hlim : lim ≤ 20000) (h : okX X) (z1 : X 0 1 = 1) (z2 : X 0 2 = 0) (z3 : X 0 3 = 0) : Mi lim X X 0 0 0 (-1) (fun _ => 0) := ⟨h, z2, z3, z1, rfl, Or.inl ⟨rfl, rfl⟩, fun h => absurd h (Nat.lt_irrefl 0), fun _ _ => rfl, Nat.le_refl 0, Nat.zero_le _, hlim⟩
theorem mi_try {lim : Nat} {X X1 : Nat → Nat → Nat} {st rt le s : Nat} {lv : Int32} {be : Nat → Nat} (c : Nat) (h : Mi lim X X1 st rt le lv be) (hst : st < lim) (hs : s ≤ 3) : Mi lim X (up2 (up2 X1 0 2 (X1 0 2 + 1)) 1 c s) (st + 1) rt le lv be := by
  obtain ⟨⟨x00, x01, x02, x03, hx1, hx2, hx3, hx4, hx5, hx6, hx7⟩, y2, y3, y1, y0, hle, hbe, hkeep, hb⟩ := h
  refine ⟨⟨x00, x01, ?_, x03, ?_, hx2, hx3, hx4, hx5, hx6, hx7⟩, ?_, y3, y1, y0, hle, hbe, ?_, by omega, by omega, hb.2.2⟩
  · show X1 0 2 + 1 ≤ 40000
    omega
  · intro k
    show (if k = c then s else X1 1 k) ≤ 3
    split
    · exact hs
    · exact hx1 k
  · show X1 0 2 + 1 = st + 1
    omega
  · intro r hr
    rw [← hkeep r hr]
    funext k
    simp only [up2]
    rw [if_neg (by omega), if_neg (by omega)]
theorem okx_r {X : Nat → Nat → Nat} (h : okX X) (hr : X 0 3 + 1 ≤ 40000) : okX (up2 X 0 3 (X 0 3 + 1)) := by
  obtain ⟨x00, x01, x02, x03, hx1, hx2, hx3, hx4, hx5, hx6, hx7⟩ := h
  exact ⟨x00, x01, x02, hr, hx1, hx2, hx3, hx4, hx5, hx6, hx7⟩
theorem mi_keep {lim : Nat} {X X2 : Nat → Nat → Nat} {st rt le un : Nat} {lv : Int32} {be : Nat → Nat} (h : Mi lim X X2 st rt le lv be) (hrt : rt < st) (hun : un ≤ 100000) : Mi lim X (upr (up2 X2 0 3 (X2 0 3 + 1)) 2 (up2 X2 0 3 (X2 0 3 + 1) 1)) st (rt + 1) un (nI un) (X2 1) := by
  obtain ⟨⟨x00, x01, x02, x03, hx1, hx2, hx3, hx4, hx5, hx6, hx7⟩, y2, y3, y1, y0, hle, hbe, hkeep, hb⟩ := h
  refine ⟨⟨x00, x01, x02, ?_, hx1, hx1, hx3, hx4, hx5, hx6, hx7⟩, y2, ?_, y1, y0, Or.inr ⟨by omega, hun, rfl⟩, fun _ => rfl, ?_, by omega, hb.2⟩
  · show X2 0 3 + 1 ≤ 40000
    omega
  · show X2 0 3 + 1 = rt + 1
    omega
  · intro r hr
    rw [← hkeep r hr]
    funext k
    simp only [upr, up2]
    rw [if_neg (by omega), if_neg (by omega)]
theorem got_of {lim : Nat} {X X1 : Nat → Nat → Nat} {st rt le : Nat} {lv : Int32} {be : Nat → Nat} (h : Mi lim X X1 st rt le lv be) : gotX X X1 (0, st, rt, le, be) lv := by
  obtain ⟨hok, y2, y3, y1, y0, hle, hbe, hkeep, hb⟩ := h
  refine ⟨hok, y1, y2, y3, fun hr => ?_, fun hr => ?_, hkeep, y0⟩
  · rcases hle with h | h
    · have : 0 < rt := hr
      omega
    · exact ⟨h.2.2, hbe hr, h.2.1⟩
  · rcases hle with h | h
    · exact h.2
    · have : rt = 0 := hr
      omega
theorem got_stop {lim : Nat} {X X1 : Nat → Nat → Nat} {st rt le : Nat} {lv : Int32} {be : Nat → Nat} (h : Mi lim X X1 st rt le lv be) : gotX X (up2 X1 0 1 0) (1, st, rt, le, be) lv := by
  obtain ⟨-, -, -, -, h5, h6, -, -⟩ := got_of h
  obtain ⟨⟨x00, x01, x02, x03, hx1, hx2, hx3, hx4, hx5, hx6, hx7⟩, y2, y3, y1, y0, hle, hbe, hkeep, hb⟩ := h
  refine ⟨⟨x00, Nat.zero_le _, x02, x03, hx1, hx2, hx3, hx4, hx5, hx6, hx7⟩, rfl, y2, y3, h5, h6, ?_, y0⟩
  intro r hr
  rw [← hkeep r hr]
  funext k
  simp only [up2]
  rw [if_neg (by omega)]

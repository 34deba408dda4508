/-! The search over naturals, a turn a step: day d, person p, the next shift nx (of a frozen day: 0 before its one try, then 1), steps st, right ones rt, the least unmet sum le, the tried shifts tr, the best be. -/
def cnt (tr : Nat → Nat) (p : Nat) : Nat → Nat
  | 0 => 0
  | k + 1 => cnt tr p k + (if tr (k * 6 + p) = 0 then 0 else 1)
def run (tr : Nat → Nat) (p : Nat) : Nat → Nat
  | 0 => 0
  | k + 1 => if tr (k * 6 + p) = 3 then run tr p k + 1 else 0
def hadT (tr : Nat → Nat) (p d : Nat) : Nat := if d = 0 then 0 else tr ((d - 1) * 6 + p)
def rowS (P : Nat → Nat → Nat) (tr : Nat → Nat) (d : Nat) : Nat → Nat
  | 0 => 0
  | k + 1 => rowS P tr d k + P 6 ((d * 6 + k) * 4 + tr (d * 6 + k))
def daysS (P : Nat → Nat → Nat) (tr : Nat → Nat) : Nat → Nat
  | 0 => 0
  | k + 1 => daysS P tr k + rowS P tr k (P 0 0)
def unm (P : Nat → Nat → Nat) (tr : Nat → Nat) (d p : Nat) : Nat := daysS P tr d + rowS P tr d (p + 1)
def gu (P : Nat → Nat → Nat) (tr : Nat → Nat) (d p rt le : Nat) : Bool :=
  decide (breaks P (hadT tr p d) (tr (d * 6 + p)) = true ∨ P 0 3 < cnt tr p (d + 1) ∨ P 0 4 < run tr p (d + 1) ∨ P 5 ((d * 6 + p) * 4 + tr (d * 6 + p)) ≠ 0 ∨ (p = P 0 0 - 1 ∧ needUnmet P tr d ≠ 0) ∨ (0 < rt ∧ le ≤ unm P tr d p))
def nxt (fz : Nat) (tr : Nat → Nat) (d p : Nat) : Nat := if d < fz then 1 else tr (d * 6 + p) + 1
def srch (P : Nat → Nat → Nat) (ro : Nat → Nat) (fz lim : Nat) : Nat → Nat → Nat → Nat → Nat → Nat → Nat → (Nat → Nat) → (Nat → Nat) → Nat × Nat × Nat × Nat × (Nat → Nat)
  | 0, _, _, _, st, rt, le, _, be => (0, st, rt, le, be)
  | k + 1, d, p, nx, st, rt, le, tr, be =>
    if (if d < fz then 0 < nx else 3 < nx) then
      if p = 0 then (if d = 0 then (0, st, rt, le, be) else srch P ro fz lim k (d - 1) (P 0 0 - 1) (nxt fz tr (d - 1) (P 0 0 - 1)) st rt le tr be)
      else srch P ro fz lim k d (p - 1) (nxt fz tr d (p - 1)) st rt le tr be
    else if st = lim then (1, st, rt, le, be)
    else if gu P (up1 tr (d * 6 + p) (if d < fz then ro (d * 6 + p) else nx)) d p rt le = true then
      srch P ro fz lim k d p (if d < fz then 1 else nx + 1) (st + 1) rt le (up1 tr (d * 6 + p) (if d < fz then ro (d * 6 + p) else nx)) be
    else if p = P 0 0 - 1 then
      (if d = P 0 1 - 1 then srch P ro fz lim k d p (if d < fz then 1 else nx + 1) (st + 1) (rt + 1) (unm P (up1 tr (d * 6 + p) (if d < fz then ro (d * 6 + p) else nx)) d p) (up1 tr (d * 6 + p) (if d < fz then ro (d * 6 + p) else nx)) (up1 tr (d * 6 + p) (if d < fz then ro (d * 6 + p) else nx))
      else srch P ro fz lim k (d + 1) 0 0 (st + 1) rt le (up1 tr (d * 6 + p) (if d < fz then ro (d * 6 + p) else nx)) be)
    else srch P ro fz lim k d (p + 1) 0 (st + 1) rt le (up1 tr (d * 6 + p) (if d < fz then ro (d * 6 + p) else nx)) be
/-- the search's memory S and the search over naturals go together -/
def Sim (P : Nat → Nat → Nat) (ro : Nat → Nat) (fz lim : Nat) (S : Nat → Nat → Nat) (d p nx st rt le : Nat) (tr be : Nat → Nat) : Prop :=
  okS S ∧ S 0 0 = lim ∧ S 0 1 = fz ∧ S 0 2 = st ∧ S 0 3 = rt ∧ S 0 5 = 0 ∧ (rt = 0 → S 0 4 = 2001) ∧ (0 < rt → S 0 4 = le ∧ S 1 = be) ∧ p < P 0 0 ∧ d < P 0 1 ∧ st ≤ lim ∧ rt ≤ st ∧
  (∀ k, ¬ (k % 6 < P 0 0 ∧ k / 6 < P 0 1) → S 2 k = 0 ∧ tr k = 0) ∧
  (∀ e q, q < P 0 0 → (e < d ∨ (e = d ∧ q < p)) → S 2 (e * 6 + q) = tr (e * 6 + q) ∧ S 3 (e * 6 + q) = tr (e * 6 + q) + 1 ∧ S 4 (e * 6 + q) = (if e < fz then ro (e * 6 + q) else 3) ∧ (e < fz → tr (e * 6 + q) = ro (e * 6 + q)) ∧ S 5 (e * 6 + q) = cnt tr q (e + 1) ∧ S 6 (e * 6 + q) = run tr q (e + 1) ∧ S 7 (e * 6 + q) = unm P tr e q) ∧
  S 4 (d * 6 + p) = (if d < fz then ro (d * 6 + p) else 3) ∧ S 3 (d * 6 + p) = (if d < fz then ro (d * 6 + p) + nx else nx) ∧ nx ≤ 4 ∧ (∀ k, tr k ≤ 3)
theorem mul_pred {d n : Nat} (h : 0 < d) : d * n = (d - 1) * n + n := by
  cases d with
  | zero => omega
  | succ d => simp [Nat.add_mul]

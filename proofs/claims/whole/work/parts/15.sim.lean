section SIM
variable {P : Nat → Nat → Nat} {ro : Nat → Nat} {fz lim : Nat} {S : Nat → Nat → Nat} {d p nx st rt le : Nat} {tr be : Nat → Nat}
theorem sim_ex (h : Sim P ro fz lim S d p nx st rt le tr be) : S 4 (d * 6 + p) < S 3 (d * 6 + p) ↔ (if d < fz then 0 < nx else 3 < nx) := by
  obtain ⟨-, -, -, -, -, -, -, -, -, -, -, -, -, -, e4, e3, -, -⟩ := h
  rw [e4, e3]
  split <;> omega
theorem sim_start (h0 : okP P) (hS : okS S) (hp : 0 < P 0 0) (hd : 0 < P 0 1) (h2 : S 2 = ro) (h02 : S 0 2 = 0) (h03 : S 0 3 = 0) (h04 : S 0 4 = 2001) (h05 : S 0 5 = 0) (hro : ∀ k, ro k ≤ 3) (hout : ∀ k, ¬ (k % 6 < P 0 0 ∧ k / 6 < P 0 1) → ro k = 0) : Sim P ro (S 0 1) (S 0 0) (openS S ro 0 0) 0 0 0 0 0 0 (fun _ => 0) (fun _ => 0) := by
  sorry
theorem sim_back (h : Sim P ro fz lim S d p nx st rt le tr be) (hp : p ≠ 0) : Sim P ro fz lim S d (p - 1) (nxt fz tr d (p - 1)) st rt le tr be := by
  sorry
theorem sim_backd (h : Sim P ro fz lim S d p nx st rt le tr be) (hp : p = 0) (hd : 0 < d) : Sim P ro fz lim S (d - 1) (P 0 0 - 1) (nxt fz tr (d - 1) (P 0 0 - 1)) st rt le tr be := by
  sorry
theorem sim_gu (h0 : okP P) (hro : ∀ k, ro k ≤ 3) (h : Sim P ro fz lim S d p nx st rt le tr be) (hx : ¬ (if d < fz then 0 < nx else 3 < nx)) : (snB P S p d = true) ↔ ¬ gu P (up1 tr (d * 6 + p) (if d < fz then ro (d * 6 + p) else nx)) d p rt le = true := by
  sorry
theorem sim_fail (h0 : okP P) (hro : ∀ k, ro k ≤ 3) (h : Sim P ro fz lim S d p nx st rt le tr be) (hx : ¬ (if d < fz then 0 < nx else 3 < nx)) (hst : st < lim) : Sim P ro fz lim (snS P S p d) d p (if d < fz then 1 else nx + 1) (st + 1) rt le (up1 tr (d * 6 + p) (if d < fz then ro (d * 6 + p) else nx)) be := by
  sorry
theorem sim_keep (h0 : okP P) (hro : ∀ k, ro k ≤ 3) (h : Sim P ro fz lim S d p nx st rt le tr be) (hx : ¬ (if d < fz then 0 < nx else 3 < nx)) (hst : st < lim) (hb : snB P S p d = true) (hp : p = P 0 0 - 1) (hd : d = P 0 1 - 1) : Sim P ro fz lim (ktS (snS P S p d) (snS P S p d 7 (d * 6 + p))) d p (if d < fz then 1 else nx + 1) (st + 1) (rt + 1) (unm P (up1 tr (d * 6 + p) (if d < fz then ro (d * 6 + p) else nx)) d p) (up1 tr (d * 6 + p) (if d < fz then ro (d * 6 + p) else nx)) (up1 tr (d * 6 + p) (if d < fz then ro (d * 6 + p) else nx)) := by
  sorry
theorem sim_next (h0 : okP P) (hro : ∀ k, ro k ≤ 3) (h : Sim P ro fz lim S d p nx st rt le tr be) (hx : ¬ (if d < fz then 0 < nx else 3 < nx)) (hst : st < lim) (hb : snB P S p d = true) (hp : p ≠ P 0 0 - 1) : Sim P ro fz lim (openS (snS P S p d) ro (p + 1) d) d (p + 1) 0 (st + 1) rt le (up1 tr (d * 6 + p) (if d < fz then ro (d * 6 + p) else nx)) be := by
  sorry
theorem sim_nextd (h0 : okP P) (hro : ∀ k, ro k ≤ 3) (h : Sim P ro fz lim S d p nx st rt le tr be) (hx : ¬ (if d < fz then 0 < nx else 3 < nx)) (hst : st < lim) (hb : snB P S p d = true) (hp : p = P 0 0 - 1) (hd : d ≠ P 0 1 - 1) : Sim P ro fz lim (openS (snS P S p d) ro 0 (d + 1)) (d + 1) 0 0 (st + 1) rt le (up1 tr (d * 6 + p) (if d < fz then ro (d * 6 + p) else nx)) be := by
  sorry
end SIM
/-- what is known of S behind the search -/
def goneS (S : Nat → Nat → Nat) (F : Nat × Nat × Nat × Nat × (Nat → Nat)) : Prop := okS S ∧ S 0 5 = F.1 ∧ S 0 2 = F.2.1 ∧ S 0 3 = F.2.2.1 ∧ (0 < F.2.2.1 → S 0 4 = F.2.2.2.1 ∧ S 1 = F.2.2.2.2)
theorem ok_openS {S : Nat → Nat → Nat} {ro : Nat → Nat} {p d : Nat} (h : okS S) (hro : ∀ k, ro k ≤ 3) : okS (openS S ro p d) := by
  sorry
theorem ok_ktS {S : Nat → Nat → Nat} {x : Nat} (h : okS S) (h3 : S 0 3 < 40000) (hx : x ≤ 100000) : okS (ktS S x) := by
  sorry
theorem ok_snS {P S : Nat → Nat → Nat} {p d : Nat} (hP : okP P) (h : okS S) (hp : p < P 0 0) (hd : d < 7) (h3 : S 3 (d * 6 + p) ≤ 3) (hst : S 0 2 < 20000) : okS (snS P S p d) := by
  sorry

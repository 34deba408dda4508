section ROWS
variable {P S : Nat → Nat → Nat} {ro tr : Nat → Nat} {p d : Nat}
theorem op_r (r : Nat) (h3 : r ≠ 3) (h4 : r ≠ 4) : openS S ro p d r = S r := by
  unfold openS
  split <;> (funext k; simp [up2, h3, h4])
theorem op_3 (k : Nat) : openS S ro p d 3 k = if k = d * 6 + p then (if d < S 0 1 then ro (d * 6 + p) else 0) else S 3 k := by
  unfold openS
  split <;> simp [up2]
theorem op_4 (k : Nat) : openS S ro p d 4 k = if k = d * 6 + p then (if d < S 0 1 then ro (d * 6 + p) else 3) else S 4 k := by
  unfold openS
  split <;> simp [up2]
theorem sn_0 (j : Nat) : snS P S p d 0 j = if j = 2 then S 0 2 + 1 else S 0 j := by
  unfold snS
  split <;> simp [sbS, krS, snT, up2]
theorem sn_1 : snS P S p d 1 = S 1 := by
  unfold snS
  split <;> (funext k; simp [sbS, krS, snT, up2])
theorem sn_2 (k : Nat) : snS P S p d 2 k = if k = d * 6 + p then S 3 (d * 6 + p) else S 2 k := by
  unfold snS
  split <;> simp [sbS, krS, snT, up2]
theorem sn_3 (k : Nat) : snS P S p d 3 k = if k = d * 6 + p then S 3 (d * 6 + p) + 1 else S 3 k := by
  unfold snS
  split <;> simp [sbS, krS, snT, up2]
theorem sn_4 : snS P S p d 4 = S 4 := by
  unfold snS
  split <;> (funext k; simp [sbS, krS, snT, up2])
theorem had_5 : hadB (snT S p d) 5 p d = hadB S 5 p d := by simp [hadB, snT, up2]
theorem had_6 : hadB (snT S p d) 6 p d = hadB S 6 p d := by simp [hadB, snT, up2]
theorem had_2 : hadB (snT S p d) 2 p d = hadB S 2 p d := by
  unfold hadB
  split
  · rfl
  · have hne : (d - 1) * 6 + p ≠ d * 6 + p := by omega
    simp [snT, up2]
    intro h
    omega
theorem sn_5 (k : Nat) : snS P S p d 5 k = if k = d * 6 + p then (if S 3 (d * 6 + p) = 0 then hadB S 5 p d else hadB S 5 p d + 1) else S 5 k := by
  unfold snS
  split <;> simp [sbS, krS, had_5, had_6, up2] <;> simp [snT, up2]
theorem sn_6 (k : Nat) : snS P S p d 6 k = if k = d * 6 + p then (if S 3 (d * 6 + p) = 3 then hadB S 6 p d + 1 else 0) else S 6 k := by
  unfold snS
  split <;> simp [sbS, krS, had_5, had_6, up2] <;> simp [snT, up2]
theorem ub_k (s : Nat) : ubef P (krS (snT S p d) p d s) p d = ubef P S p d := by simp [ubef, krS, snT, up2]
theorem sn_7n (k : Nat) (h : k ≠ d * 6 + p) : snS P S p d 7 k = S 7 k := by
  unfold snS
  split <;> simp [sbS, krS, snT, up2, h]
theorem sn_7 (h : snG P S p d = true) : snS P S p d 7 (d * 6 + p) = ubef P S p d + P 6 ((d * 6 + p) * 4 + S 3 (d * 6 + p)) := by
  unfold snS
  rw [if_pos h]
  simp only [sbS, up2, ub_k]
  simp
theorem up1_ne {c s k : Nat} (h : k ≠ c) : up1 tr c s k = tr k := if_neg h
theorem up1_self {c s : Nat} : up1 tr c s c = s := if_pos rfl
theorem cnt_up {c s q : Nat} : ∀ n, (∀ k, k < n → k * 6 + q ≠ c) → cnt (up1 tr c s) q n = cnt tr q n := by
  intro n
  induction n with
  | zero => intro _; rfl
  | succ n ih => intro h; rw [cnt, cnt, ih (fun k hk => h k (by omega))]; rw [up1_ne (h n (by omega))]
theorem run_up {c s q : Nat} : ∀ n, (∀ k, k < n → k * 6 + q ≠ c) → run (up1 tr c s) q n = run tr q n := by
  intro n
  induction n with
  | zero => intro _; rfl
  | succ n ih => intro h; rw [run, run, ih (fun k hk => h k (by omega))]; rw [up1_ne (h n (by omega))]
theorem rowS_up {c s e : Nat} : ∀ n, (∀ k, k < n → e * 6 + k ≠ c) → rowS P (up1 tr c s) e n = rowS P tr e n := by
  intro n
  induction n with
  | zero => intro _; rfl
  | succ n ih => intro h; rw [rowS, rowS, ih (fun k hk => h k (by omega))]; rw [up1_ne (h n (by omega))]
theorem daysS_up {c s : Nat} : ∀ n, (∀ e k, e < n → k < P 0 0 → e * 6 + k ≠ c) → daysS P (up1 tr c s) n = daysS P tr n := by
  intro n
  induction n with
  | zero => intro _; rfl
  | succ n ih => intro h; rw [daysS, daysS, ih (fun e k he hk => h e k (by omega) hk), rowS_up _ (fun k hk => h n k (by omega) hk)]
theorem mt_congr {sh sh2 : Nat → Nat} {s : Nat} : ∀ k i th sk, (∀ j, i ≤ j → j < i + k → sh (d * 6 + j) = sh2 (d * 6 + j)) → mt P sh d s k i th sk = mt P sh2 d s k i th sk := by
  intro k
  induction k with
  | zero => intro i th sk _; rfl
  | succ k ih =>
    intro i th sk h
    rw [mt, mt, h i (Nat.le_refl i) (by omega), ih (i + 1) (th + 1) (sk ||| P 1 i) (fun j h1 h2 => h j (by omega) (by omega)), ih (i + 1) th sk (fun j h1 h2 => h j (by omega) (by omega))]
theorem meets_congr {sh sh2 : Nat → Nat} {s : Nat} (h : ∀ j, j < P 0 0 → sh (d * 6 + j) = sh2 (d * 6 + j)) : meets P sh d s = meets P sh2 d s := by
  unfold meets
  rw [mt_congr (P 0 0) 0 0 0 (fun j _ h2 => h j (by omega))]
theorem need_congr {sh sh2 : Nat → Nat} (h : ∀ j, j < P 0 0 → sh (d * 6 + j) = sh2 (d * 6 + j)) : needUnmet P sh d = needUnmet P sh2 d := by
  simp only [needUnmet, nu, meets_congr h]
end ROWS
theorem ok_openS {S : Nat → Nat → Nat} {ro : Nat → Nat} {p d : Nat} (h : okS S) (hro : ∀ k, ro k ≤ 3) : okS (openS S ro p d) := by
  obtain ⟨g00, g01, g02, g03, g04, g05, g06, hs1, hs2, hs3, hs4, hs5, hs6, hs7⟩ := h
  refine ⟨?_, ?_, ?_, ?_, ?_, ?_, ?_, ?_, ?_, ?_, ?_, ?_, ?_, ?_⟩ <;> (try rw [op_r 0 (by decide) (by decide)]) <;> (try rw [op_r 1 (by decide) (by decide)]) <;> (try rw [op_r 2 (by decide) (by decide)]) <;> (try rw [op_r 5 (by decide) (by decide)]) <;> (try rw [op_r 6 (by decide) (by decide)]) <;> (try rw [op_r 7 (by decide) (by decide)]) <;> (try assumption)
  · intro k
    rw [op_3]
    have := hs3 k
    have := hro (d * 6 + p)
    split
    · split <;> omega
    · omega
  · intro k
    rw [op_4]
    have := hs4 k
    have := hro (d * 6 + p)
    split
    · split <;> omega
    · omega
theorem ok_ktS {S : Nat → Nat → Nat} {x : Nat} (h : okS S) (h3 : S 0 3 < 40000) (hx : x ≤ 100000) : okS (ktS S x) := by
  obtain ⟨g00, g01, g02, g03, g04, g05, g06, hs1, hs2, hs3, hs4, hs5, hs6, hs7⟩ := h
  exact ⟨g00, g01, g02, h3, hx, g05, g06, hs2, hs2, hs3, hs4, hs5, hs6, hs7⟩
theorem ok_snS {P S : Nat → Nat → Nat} {p d : Nat} (hP : okP P) (h : okS S) (hp : p < P 0 0) (hd : d < 7) (h3 : S 3 (d * 6 + p) ≤ 3) (hst : S 0 2 < 20000) : okS (snS P S p d) := by
  have hp6 : p < 6 := Nat.lt_of_lt_of_le hp hP.1
  unfold snS
  split
  · exact ok_sbS hP (ok_krS (ok_snT h h3 hst) hp6 hd) hp hd
  · exact ok_krS (ok_snT h h3 hst) hp6 hd
section SIM
variable {P : Nat → Nat → Nat} {ro : Nat → Nat} {fz lim : Nat} {S : Nat → Nat → Nat} {d p nx st rt le : Nat} {tr be : Nat → Nat}
theorem sim_ex (h : Sim P ro fz lim S d p nx st rt le tr be) : S 4 (d * 6 + p) < S 3 (d * 6 + p) ↔ (if d < fz then 0 < nx else 3 < nx) := by
  obtain ⟨-, -, -, -, -, -, -, -, -, -, -, -, -, -, e4, e3, -, -⟩ := h
  rw [e4, e3]
  split <;> omega
theorem sim_s (h : Sim P ro fz lim S d p nx st rt le tr be) (hx : ¬ (if d < fz then 0 < nx else 3 < nx)) : S 3 (d * 6 + p) = (if d < fz then ro (d * 6 + p) else nx) := by
  obtain ⟨-, -, -, -, -, -, -, -, -, -, -, -, -, -, e4, e3, -, -⟩ := h
  rw [e3]
  by_cases hf : d < fz
  · rw [if_pos hf] at hx ⊢
    rw [if_pos hf]
    omega
  · rw [if_neg hf, if_neg hf]
theorem sim_s3 (hro : ∀ k, ro k ≤ 3) (hx : ¬ (if d < fz then 0 < nx else 3 < nx)) : (if d < fz then ro (d * 6 + p) else nx) ≤ 3 := by
  by_cases hf : d < fz
  · rw [if_pos hf]
    exact hro _
  · rw [if_neg hf] at hx ⊢
    omega
theorem sim_c5 (h : Sim P ro fz lim S d p nx st rt le tr be) : hadB S 5 p d = cnt tr p d := by
  obtain ⟨-, -, -, -, -, -, -, -, hpn, hdn, -, -, -, hpre, -, -, -, -⟩ := h
  unfold hadB
  split
  · rename_i h0
    rw [h0]; rfl
  · rw [(hpre (d - 1) p hpn (Or.inl (by omega))).2.2.2.2.1, show d - 1 + 1 = d by omega]
theorem sim_c6 (h : Sim P ro fz lim S d p nx st rt le tr be) : hadB S 6 p d = run tr p d := by
  obtain ⟨-, -, -, -, -, -, -, -, hpn, hdn, -, -, -, hpre, -, -, -, -⟩ := h
  unfold hadB
  split
  · rename_i h0
    rw [h0]; rfl
  · rw [(hpre (d - 1) p hpn (Or.inl (by omega))).2.2.2.2.2.1, show d - 1 + 1 = d by omega]
theorem sim_c2 {s : Nat} (h : Sim P ro fz lim S d p nx st rt le tr be) : hadB S 2 p d = hadT (up1 tr (d * 6 + p) s) p d := by
  obtain ⟨-, -, -, -, -, -, -, -, hpn, hdn, -, -, -, hpre, -, -, -, -⟩ := h
  unfold hadB hadT
  split
  · rfl
  · rw [(hpre (d - 1) p hpn (Or.inl (by omega))).1, up1_ne (by omega)]
theorem sim_ub (h : Sim P ro fz lim S d p nx st rt le tr be) : ubef P S p d = daysS P tr d + rowS P tr d p := by
  obtain ⟨-, -, -, -, -, -, -, -, hpn, hdn, -, -, -, hpre, -, -, -, -⟩ := h
  unfold ubef
  by_cases hp : 0 < p
  · rw [if_pos hp, (hpre d (p - 1) (by omega) (Or.inr ⟨rfl, by omega⟩)).2.2.2.2.2.2, unm, show p - 1 + 1 = p by omega]
  · have hp0 : p = 0 := by omega
    subst hp0
    rw [if_neg hp]
    by_cases hd : d = 0
    · subst hd
      rw [if_pos rfl]; rfl
    · rw [if_neg hd, (hpre (d - 1) (P 0 0 - 1) (by omega) (Or.inl (by omega))).2.2.2.2.2.2, unm, show P 0 0 - 1 + 1 = P 0 0 by omega]
      have e : daysS P tr d = daysS P tr (d - 1) + rowS P tr (d - 1) (P 0 0) := by
        conv => lhs; rw [show d = d - 1 + 1 by omega]
        rw [daysS]
      rw [e]; rfl
theorem up_cnt {s : Nat} : cnt (up1 tr (d * 6 + p) s) p (d + 1) = cnt tr p d + (if s = 0 then 0 else 1) := by
  rw [cnt, cnt_up d (fun k hk => by omega), up1_self]
theorem up_run {s : Nat} : run (up1 tr (d * 6 + p) s) p (d + 1) = if s = 3 then run tr p d + 1 else 0 := by
  rw [run, run_up d (fun k hk => by omega), up1_self]
theorem up_unm {s : Nat} (h6 : P 0 0 ≤ 6) : unm P (up1 tr (d * 6 + p) s) d p = daysS P tr d + rowS P tr d p + P 6 ((d * 6 + p) * 4 + s) := by
  rw [unm, rowS, daysS_up d (fun e k he hk => by omega), rowS_up p (fun k hk => by omega), up1_self]
  omega
theorem sim_gu (h0 : okP P) (hro : ∀ k, ro k ≤ 3) (hcap : ∀ (t : Nat → Nat) (e q : Nat), (∀ k, t k ≤ 3) → q < P 0 0 → e < P 0 1 → unm P t e q ≤ 2000) (h : Sim P ro fz lim S d p nx st rt le tr be) (hx : ¬ (if d < fz then 0 < nx else 3 < nx)) : (snB P S p d = true) ↔ ¬ gu P (up1 tr (d * 6 + p) (if d < fz then ro (d * 6 + p) else nx)) d p rt le = true := by
  have hs := sim_s h hx
  have hs3 := sim_s3 (p := p) hro hx
  have c5 := sim_c5 h
  have c6 := sim_c6 h
  have c2 := sim_c2 (s := (if d < fz then ro (d * 6 + p) else nx)) h
  have ub := sim_ub h
  generalize (if d < fz then ro (d * 6 + p) else nx) = s at hs hs3 c2 ⊢
  obtain ⟨hok, e00, e01, e02, e03, e05, e4a, e4b, hpn, hdn, hsl, hrs, hout, hpre, c4, c3, hnx, htr⟩ := h
  have ht3 : ∀ k, up1 tr (d * 6 + p) s k ≤ 3 := by
    intro k
    unfold up1
    split
    · exact hs3
    · exact htr k
  have hcp := hcap (up1 tr (d * 6 + p) s) d p ht3 hpn hdn
  have he4 : (rt = 0 ∧ S 0 4 = 2001) ∨ (0 < rt ∧ S 0 4 = le) := by
    rcases Nat.eq_zero_or_pos rt with hr | hr
    · exact Or.inl ⟨hr, e4a hr⟩
    · exact Or.inr ⟨hr, (e4b hr).1⟩
  have k04 : krS (snT S p d) p d s 0 4 = S 0 4 := rfl
  have hnd : p = P 0 0 - 1 → needUnmet P (sbS P (krS (snT S p d) p d s) p d s 2) d = needUnmet P (up1 tr (d * 6 + p) s) d := by
    intro hp
    refine need_congr (fun j hj => ?_)
    show (if d * 6 + j = d * 6 + p then S 3 (d * 6 + p) else S 2 (d * 6 + j)) = (if d * 6 + j = d * 6 + p then s else tr (d * 6 + j))
    rw [hs]
    by_cases hj2 : j = p
    · subst hj2; rw [if_pos rfl, if_pos rfl]
    · rw [if_neg (by omega), if_neg (by omega)]
      exact (hpre d j hj (Or.inr ⟨rfl, by omega⟩)).1
  have hu := up_unm (P := P) (tr := tr) (d := d) (p := p) (s := s) h0.1
  rw [hu] at hcp
  simp only [snB, snG, krB, sbB, gu, hs, had_5, had_6, had_2, ub_k, c5, c6, c2, ub, k04, up_cnt, up_run, up1_self, hu, Bool.and_eq_true, Bool.or_eq_true, decide_eq_true_eq, not_or]
  have hi : (if s = 0 then cnt tr p d else cnt tr p d + 1) = cnt tr p d + (if s = 0 then 0 else 1) := by split <;> rfl
  rw [hi]
  by_cases hp : p = P 0 0 - 1
  · rw [hnd hp]
    generalize breaks P (hadT (up1 tr (d * 6 + p) s) p d) s = b
    cases b <;> simp <;> omega
  · generalize breaks P (hadT (up1 tr (d * 6 + p) s) p d) s = b
    generalize needUnmet P (sbS P (krS (snT S p d) p d s) p d s 2) d = z
    cases b <;> simp <;> omega
theorem sim_to {e q : Nat} (h : Sim P ro fz lim S d p nx st rt le tr be) (hq : q < P 0 0) (hlt : e < d ∨ (e = d ∧ q < p)) : Sim P ro fz lim S e q (nxt fz tr e q) st rt le tr be := by
  obtain ⟨hok, e00, e01, e02, e03, e05, e4a, e4b, hpn, hdn, hsl, hrs, hout, hpre, c4, c3, hnx, htr⟩ := h
  obtain ⟨f2, f3, f4, ff, f5, f6, f7⟩ := hpre e q hq hlt
  have ht := htr (e * 6 + q)
  refine ⟨hok, e00, e01, e02, e03, e05, e4a, e4b, hq, by omega, hsl, hrs, hout, fun e' q' hq' hl' => hpre e' q' hq' (by omega), f4, ?_, ?_, htr⟩
  · unfold nxt
    by_cases hf : e < fz
    · rw [if_pos hf, if_pos hf, f3, ff hf]
    · rw [if_neg hf, if_neg hf, f3]
  · unfold nxt
    split <;> omega
theorem sim_back (h : Sim P ro fz lim S d p nx st rt le tr be) (hp : p ≠ 0) : Sim P ro fz lim S d (p - 1) (nxt fz tr d (p - 1)) st rt le tr be := sim_to h (by have := h.2.2.2.2.2.2.2.2.1; omega) (Or.inr ⟨rfl, by omega⟩)
theorem sim_backd (h : Sim P ro fz lim S d p nx st rt le tr be) (hp : p = 0) (hd : 0 < d) : Sim P ro fz lim S (d - 1) (P 0 0 - 1) (nxt fz tr (d - 1) (P 0 0 - 1)) st rt le tr be := sim_to h (by have := h.2.2.2.2.2.2.2.2.1; omega) (Or.inl (by omega))
/-- behind a try: the memory, and what is known of the cell itself -/
theorem sim_tried (h0 : okP P) (hro : ∀ k, ro k ≤ 3) (h : Sim P ro fz lim S d p nx st rt le tr be) (hx : ¬ (if d < fz then 0 < nx else 3 < nx)) (hst : st < lim) :
    Sim P ro fz lim (snS P S p d) d p (if d < fz then 1 else nx + 1) (st + 1) rt le (up1 tr (d * 6 + p) (if d < fz then ro (d * 6 + p) else nx)) be ∧
    (snS P S p d 2 (d * 6 + p) = up1 tr (d * 6 + p) (if d < fz then ro (d * 6 + p) else nx) (d * 6 + p) ∧ snS P S p d 3 (d * 6 + p) = up1 tr (d * 6 + p) (if d < fz then ro (d * 6 + p) else nx) (d * 6 + p) + 1 ∧ (d < fz → up1 tr (d * 6 + p) (if d < fz then ro (d * 6 + p) else nx) (d * 6 + p) = ro (d * 6 + p)) ∧ snS P S p d 5 (d * 6 + p) = cnt (up1 tr (d * 6 + p) (if d < fz then ro (d * 6 + p) else nx)) p (d + 1) ∧ snS P S p d 6 (d * 6 + p) = run (up1 tr (d * 6 + p) (if d < fz then ro (d * 6 + p) else nx)) p (d + 1)) ∧
    (snB P S p d = true → snS P S p d 7 (d * 6 + p) = unm P (up1 tr (d * 6 + p) (if d < fz then ro (d * 6 + p) else nx)) d p) := by
  have hs := sim_s h hx
  have hs3 := sim_s3 (p := p) hro hx
  have c5 := sim_c5 h
  have c6 := sim_c6 h
  have ub := sim_ub h
  have hfs : d < fz → (if d < fz then ro (d * 6 + p) else nx) = ro (d * 6 + p) := fun hf => if_pos hf
  have hn3 : (if d < fz then ro (d * 6 + p) else nx) + 1 = (if d < fz then ro (d * 6 + p) + (if d < fz then 1 else nx + 1) else (if d < fz then 1 else nx + 1)) := by
    by_cases hf : d < fz
    · rw [if_pos hf, if_pos hf, if_pos hf]
    · rw [if_neg hf, if_neg hf, if_neg hf]
  have hn4 : (if d < fz then 1 else nx + 1) ≤ 4 := by
    by_cases hf : d < fz
    · rw [if_pos hf]; decide
    · rw [if_neg hf] at hx ⊢; omega
  generalize (if d < fz then ro (d * 6 + p) else nx) = s at hs hs3 hfs hn3 ⊢
  obtain ⟨hok, e00, e01, e02, e03, e05, e4a, e4b, hpn, hdn, hsl, hrs, hout, hpre, c4, c3, hnx, htr⟩ := h
  have h6 := h0.1
  have h7 := h0.2.1
  have hl20 := hok.1
  have ht3 : ∀ k, up1 tr (d * 6 + p) s k ≤ 3 := by
    intro k
    unfold up1
    split
    · exact hs3
    · exact htr k
  refine ⟨⟨ok_snS h0 hok hpn (by omega) (by rw [hs]; exact hs3) (by omega), ?_, ?_, ?_, ?_, ?_, ?_, ?_, hpn, hdn, by omega, by omega, ?_, ?_, ?_, ?_, hn4, ht3⟩, ⟨?_, ?_, ?_, ?_, ?_⟩, ?_⟩
  · rw [sn_0, if_neg (by decide), e00]
  · rw [sn_0, if_neg (by decide), e01]
  · rw [sn_0, if_pos rfl, e02]
  · rw [sn_0, if_neg (by decide), e03]
  · rw [sn_0, if_neg (by decide), e05]
  · intro hr; rw [sn_0, if_neg (by decide), e4a hr]
  · intro hr; rw [sn_0, if_neg (by decide), sn_1]; exact e4b hr
  · intro k hk
    have hne : k ≠ d * 6 + p := by
      intro e
      apply hk
      rw [e]
      omega
    rw [sn_2, if_neg hne, up1_ne hne]
    exact hout k hk
  · intro e q hq hlt
    have hne : e * 6 + q ≠ d * 6 + p := by omega
    obtain ⟨f2, f3, f4, ff, f5, f6, f7⟩ := hpre e q hq hlt
    rw [sn_2, if_neg hne, sn_3, if_neg hne, sn_4, sn_5, if_neg hne, sn_6, if_neg hne, sn_7n _ hne, up1_ne hne, cnt_up (e + 1) (fun k hk => by omega), run_up (e + 1) (fun k hk => by omega), unm, daysS_up e (fun e' k he' hk => by omega), rowS_up (q + 1) (fun k hk => by omega)]
    exact ⟨f2, f3, f4, ff, f5, f6, f7⟩
  · rw [sn_4]; exact c4
  · rw [sn_3, if_pos rfl, hs]; exact hn3
  · rw [sn_2, if_pos rfl, up1_self]; exact hs
  · rw [sn_3, if_pos rfl, up1_self, hs]
  · intro hf; rw [up1_self]; exact hfs hf
  · rw [sn_5, if_pos rfl, hs, c5, up_cnt]
    split <;> rfl
  · rw [sn_6, if_pos rfl, hs, c6, up_run]
  · intro hb
    have hG : snG P S p d = true := by
      unfold snB at hb
      simp only [Bool.and_eq_true] at hb
      exact hb.1
    rw [sn_7 hG, ub, hs, up_unm h6]
theorem sim_fail (h0 : okP P) (hro : ∀ k, ro k ≤ 3) (h : Sim P ro fz lim S d p nx st rt le tr be) (hx : ¬ (if d < fz then 0 < nx else 3 < nx)) (hst : st < lim) : Sim P ro fz lim (snS P S p d) d p (if d < fz then 1 else nx + 1) (st + 1) rt le (up1 tr (d * 6 + p) (if d < fz then ro (d * 6 + p) else nx)) be := (sim_tried h0 hro h hx hst).1
theorem sim_keep (h0 : okP P) (hro : ∀ k, ro k ≤ 3) (h : Sim P ro fz lim S d p nx st rt le tr be) (hx : ¬ (if d < fz then 0 < nx else 3 < nx)) (hst : st < lim) (hb : snB P S p d = true) (hp : p = P 0 0 - 1) (hd : d = P 0 1 - 1) : Sim P ro fz lim (ktS (snS P S p d) (snS P S p d 7 (d * 6 + p))) d p (if d < fz then 1 else nx + 1) (st + 1) (rt + 1) (unm P (up1 tr (d * 6 + p) (if d < fz then ro (d * 6 + p) else nx)) d p) (up1 tr (d * 6 + p) (if d < fz then ro (d * 6 + p) else nx)) (up1 tr (d * 6 + p) (if d < fz then ro (d * 6 + p) else nx)) := by
  obtain ⟨hS, ⟨g2, g3, gf, g5, g6⟩, g7⟩ := sim_tried h0 hro h hx hst
  have hrs0 : rt ≤ st := by obtain ⟨-, -, -, -, -, -, -, -, -, -, -, hr, -⟩ := h; exact hr
  rw [← g7 hb]
  generalize (if d < fz then ro (d * 6 + p) else nx) = s at hS g2 g3 gf g5 g6 ⊢
  generalize (if d < fz then 1 else nx + 1) = n2 at hS ⊢
  generalize snS P S p d = T at hS g2 g3 gf g5 g6 ⊢
  obtain ⟨hok, e00, e01, e02, e03, e05, e4a, e4b, hpn, hdn, hsl, hrs, hout, hpre, c4, c3, hnx, htr⟩ := hS
  have h6 := h0.1
  have h7 := h0.2.1
  have hl20 := hok.1
  have h77 := hok.2.2.2.2.2.2.2.2.2.2.2.2.2 (d * 6 + p)
  refine ⟨ok_ktS hok (by omega) (by omega), e00, e01, e02, ?_, e05, fun hr => absurd hr (by omega), fun _ => ⟨rfl, ?_⟩, hpn, hdn, hsl, by omega, hout, hpre, c4, c3, hnx, htr⟩
  · show T 0 3 + 1 = rt + 1
    omega
  · show T 2 = _
    funext k
    by_cases hk : k % 6 < P 0 0 ∧ k / 6 < P 0 1
    · have ek : k = k / 6 * 6 + k % 6 := by omega
      by_cases hc : k / 6 = d ∧ k % 6 = p
      · have : k = d * 6 + p := by omega
        rw [this]; exact g2
      · rw [ek]
        exact (hpre (k / 6) (k % 6) hk.1 (by omega)).1
    · obtain ⟨a1, a2⟩ := hout k hk
      rw [a1, a2]
theorem sim_open {e q : Nat} (h0 : okP P) (hro : ∀ k, ro k ≤ 3) (h : Sim P ro fz lim S d p nx st rt le tr be) (hx : ¬ (if d < fz then 0 < nx else 3 < nx)) (hst : st < lim) (hb : snB P S p d = true) (hq : q < P 0 0) (he : e < P 0 1) (hne : d < e ∨ (d = e ∧ p < q)) (hsuc : ∀ e' q', q' < P 0 0 → (e' < e ∨ (e' = e ∧ q' < q)) → (e' < d ∨ (e' = d ∧ q' < p)) ∨ (e' = d ∧ q' = p)) : Sim P ro fz lim (openS (snS P S p d) ro q e) e q 0 (st + 1) rt le (up1 tr (d * 6 + p) (if d < fz then ro (d * 6 + p) else nx)) be := by
  obtain ⟨hS, ⟨g2, g3, gf, g5, g6⟩, g7⟩ := sim_tried h0 hro h hx hst
  have g7 := g7 hb
  generalize (if d < fz then ro (d * 6 + p) else nx) = s at hS g2 g3 gf g5 g6 g7 ⊢
  generalize (if d < fz then 1 else nx + 1) = n2 at hS ⊢
  generalize snS P S p d = T at hS g2 g3 gf g5 g6 g7 ⊢
  obtain ⟨hok, e00, e01, e02, e03, e05, e4a, e4b, hpn, hdn, hsl, hrs, hout, hpre, c4, c3, hnx, htr⟩ := hS
  have h6 := h0.1
  have h7 := h0.2.1
  refine ⟨ok_openS hok hro, ?_, ?_, ?_, ?_, ?_, ?_, ?_, hq, he, hsl, hrs, ?_, ?_, ?_, ?_, by omega, htr⟩
  · rw [op_r 0 (by decide) (by decide)]; exact e00
  · rw [op_r 0 (by decide) (by decide)]; exact e01
  · rw [op_r 0 (by decide) (by decide)]; exact e02
  · rw [op_r 0 (by decide) (by decide)]; exact e03
  · rw [op_r 0 (by decide) (by decide)]; exact e05
  · rw [op_r 0 (by decide) (by decide)]; exact e4a
  · rw [op_r 0 (by decide) (by decide), op_r 1 (by decide) (by decide)]; exact e4b
  · rw [op_r 2 (by decide) (by decide)]; exact hout
  · intro e' q' hq' hl'
    have hcell : e' * 6 + q' ≠ e * 6 + q := by omega
    rw [op_r 2 (by decide) (by decide), op_3, if_neg hcell, op_4, if_neg hcell, op_r 5 (by decide) (by decide), op_r 6 (by decide) (by decide), op_r 7 (by decide) (by decide)]
    rcases hsuc e' q' hq' hl' with h1 | ⟨h1, h2⟩
    · exact hpre e' q' hq' h1
    · subst h1; subst h2
      exact ⟨g2, g3, c4, gf, g5, g6, g7⟩
  · rw [op_4, if_pos rfl, e01]
  · rw [op_3, if_pos rfl, e01]; rfl
theorem sim_next (h0 : okP P) (hro : ∀ k, ro k ≤ 3) (h : Sim P ro fz lim S d p nx st rt le tr be) (hx : ¬ (if d < fz then 0 < nx else 3 < nx)) (hst : st < lim) (hb : snB P S p d = true) (hp : p ≠ P 0 0 - 1) : Sim P ro fz lim (openS (snS P S p d) ro (p + 1) d) d (p + 1) 0 (st + 1) rt le (up1 tr (d * 6 + p) (if d < fz then ro (d * 6 + p) else nx)) be := by
  have h1 := h.2.2.2.2.2.2.2.2.1
  have h2 := h.2.2.2.2.2.2.2.2.2.1
  exact sim_open h0 hro h hx hst hb (by omega) h2 (Or.inr ⟨rfl, by omega⟩) (fun e' q' hq' hl' => by omega)
theorem sim_nextd (h0 : okP P) (hro : ∀ k, ro k ≤ 3) (h : Sim P ro fz lim S d p nx st rt le tr be) (hx : ¬ (if d < fz then 0 < nx else 3 < nx)) (hst : st < lim) (hb : snB P S p d = true) (hp : p = P 0 0 - 1) (hd : d ≠ P 0 1 - 1) : Sim P ro fz lim (openS (snS P S p d) ro 0 (d + 1)) (d + 1) 0 0 (st + 1) rt le (up1 tr (d * 6 + p) (if d < fz then ro (d * 6 + p) else nx)) be := by
  have h1 := h.2.2.2.2.2.2.2.2.1
  have h2 := h.2.2.2.2.2.2.2.2.2.1
  exact sim_open h0 hro h hx hst hb (by omega) (by omega) (Or.inl (by omega)) (fun e' q' hq' hl' => by omega)
theorem sim_start (h0 : okP P) (hS : okS S) (hp : 0 < P 0 0) (hd : 0 < P 0 1) (h2 : S 2 = ro) (h02 : S 0 2 = 0) (h03 : S 0 3 = 0) (h04 : S 0 4 = 2001) (h05 : S 0 5 = 0) (hro : ∀ k, ro k ≤ 3) (hout : ∀ k, ¬ (k % 6 < P 0 0 ∧ k / 6 < P 0 1) → ro k = 0) : Sim P ro (S 0 1) (S 0 0) (openS S ro 0 0) 0 0 0 0 0 0 (fun _ => 0) (fun _ => 0) := by
  refine ⟨ok_openS hS hro, ?_, ?_, ?_, ?_, ?_, ?_, ?_, hp, hd, Nat.zero_le _, Nat.le_refl 0, ?_, ?_, ?_, ?_, by omega, fun _ => Nat.zero_le _⟩
  · rw [op_r 0 (by decide) (by decide)]
  · rw [op_r 0 (by decide) (by decide)]
  · rw [op_r 0 (by decide) (by decide)]; exact h02
  · rw [op_r 0 (by decide) (by decide)]; exact h03
  · rw [op_r 0 (by decide) (by decide)]; exact h05
  · rw [op_r 0 (by decide) (by decide)]; exact fun _ => h04
  · exact fun h => absurd h (Nat.lt_irrefl 0)
  · intro k hk
    rw [op_r 2 (by decide) (by decide), h2]
    exact ⟨hout k hk, rfl⟩
  · intro e q hq hl
    omega
  · rw [op_4, if_pos rfl]
  · rw [op_3, if_pos rfl]; rfl
end SIM
/-- what is known of S behind the search -/
def goneS (S : Nat → Nat → Nat) (F : Nat × Nat × Nat × Nat × (Nat → Nat)) : Prop := okS S ∧ S 0 5 = F.1 ∧ S 0 2 = F.2.1 ∧ S 0 3 = F.2.2.1 ∧ (0 < F.2.2.1 → S 0 4 = F.2.2.2.1 ∧ S 1 = F.2.2.2.2)

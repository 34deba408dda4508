/-! What the plan's reading methods answer, over naturals. P: row 0 persons, days, rest, most, nights, wishes; rows 1 skills, 2 rates, 3 needed persons, 4 needed skills, 5 bars, 6 what a choice leaves unmet. sh: the shifts, by day * 6 + person. -/
def okP (P : Nat → Nat → Nat) : Prop := P 0 0 ≤ 6 ∧ P 0 1 ≤ 7 ∧ P 0 2 ≤ 24 ∧ P 0 3 ≤ 7 ∧ P 0 4 ≤ 7 ∧ P 0 5 ≤ 20 ∧ (∀ k, P 1 k < 16) ∧ (∀ k, P 2 k ≤ 10000) ∧ (∀ k, P 3 k ≤ 6) ∧ (∀ k, P 4 k < 16) ∧ (∀ k, P 5 k ≤ 1) ∧ (∀ k, P 6 k ≤ 2000)
def mt (P : Nat → Nat → Nat) (sh : Nat → Nat) (d s : Nat) : Nat → Nat → Nat → Nat → Nat × Nat
  | 0, _, th, sk => (th, sk)
  | k + 1, i, th, sk => if sh (d * 6 + i) = s then mt P sh d s k (i + 1) (th + 1) (sk ||| P 1 i) else mt P sh d s k (i + 1) th sk
def meets (P : Nat → Nat → Nat) (sh : Nat → Nat) (d s : Nat) : Bool := decide (P 3 (d * 4 + s) ≤ (mt P sh d s (P 0 0) 0 0 0).1) && decide ((mt P sh d s (P 0 0) 0 0 0).2 &&& P 4 (d * 4 + s) = P 4 (d * 4 + s))
/-- the first shift from s on, k of them, whose need isn't met; 0: none -/
def nu (P : Nat → Nat → Nat) (sh : Nat → Nat) (d : Nat) : Nat → Nat → Nat
  | 0, _ => 0
  | k + 1, s => if meets P sh d s = true then nu P sh d k (s + 1) else s
def needUnmet (P : Nat → Nat → Nat) (sh : Nat → Nat) (d : Nat) : Nat := nu P sh d 3 1
def nf (P : Nat → Nat → Nat) (sh : Nat → Nat) : Nat → Nat → Nat
  | 0, _ => 0
  | k + 1, d => if needUnmet P sh d = 0 then nf P sh k (d + 1) else 100 * 1 + 10 * needUnmet P sh d + d
def needFault (P : Nat → Nat → Nat) (sh : Nat → Nat) : Nat := nf P sh (P 0 1) 0
def breaks (P : Nat → Nat → Nat) (b s : Nat) : Bool := decide (b ≠ 0) && (decide (s ≠ 0) && decide (16 + 8 * s - 8 * b < P 0 2))
def rf1 (P : Nat → Nat → Nat) (sh : Nat → Nat) (p : Nat) : Nat → Nat → Nat
  | 0, _ => 0
  | k + 1, d => if breaks P (sh ((d - 1) * 6 + p)) (sh (d * 6 + p)) = true then 100 * 2 + 10 * p + d else rf1 P sh p k (d + 1)
def rf (P : Nat → Nat → Nat) (sh : Nat → Nat) : Nat → Nat → Nat
  | 0, _ => 0
  | k + 1, p => if rf1 P sh p (P 0 1 - 1) 1 = 0 then rf P sh k (p + 1) else rf1 P sh p (P 0 1 - 1) 1
def restFault (P : Nat → Nat → Nat) (sh : Nat → Nat) : Nat := rf P sh (P 0 0) 0
def mh (sh : Nat → Nat) (p : Nat) : Nat → Nat → Nat → Nat → Nat × Nat
  | 0, _, had, last => (had, last)
  | k + 1, d, had, last => if sh (d * 6 + p) = 0 then mh sh p k (d + 1) had last else mh sh p k (d + 1) (had + 1) d
def mf (P : Nat → Nat → Nat) (sh : Nat → Nat) : Nat → Nat → Nat
  | 0, _ => 0
  | k + 1, p => if (mh sh p (P 0 1) 0 0 0).1 ≤ P 0 3 then mf P sh k (p + 1) else 100 * 3 + 10 * p + (mh sh p (P 0 1) 0 0 0).2
def mostFault (P : Nat → Nat → Nat) (sh : Nat → Nat) : Nat := mf P sh (P 0 0) 0
def gf1 (P : Nat → Nat → Nat) (sh : Nat → Nat) (p : Nat) : Nat → Nat → Nat → Nat
  | 0, _, _ => 0
  | k + 1, d, row => if (if sh (d * 6 + p) = 3 then row + 1 else 0) ≤ P 0 4 then gf1 P sh p k (d + 1) (if sh (d * 6 + p) = 3 then row + 1 else 0) else 100 * 4 + 10 * p + d
def gf (P : Nat → Nat → Nat) (sh : Nat → Nat) : Nat → Nat → Nat
  | 0, _ => 0
  | k + 1, p => if gf1 P sh p (P 0 1) 0 0 = 0 then gf P sh k (p + 1) else gf1 P sh p (P 0 1) 0 0
def nightsFault (P : Nat → Nat → Nat) (sh : Nat → Nat) : Nat := gf P sh (P 0 0) 0
def bf1 (P : Nat → Nat → Nat) (sh : Nat → Nat) (p : Nat) : Nat → Nat → Nat
  | 0, _ => 0
  | k + 1, d => if P 5 ((d * 6 + p) * 4 + sh (d * 6 + p)) = 0 then bf1 P sh p k (d + 1) else 100 * 5 + 10 * p + d
def bf (P : Nat → Nat → Nat) (sh : Nat → Nat) : Nat → Nat → Nat
  | 0, _ => 0
  | k + 1, p => if bf1 P sh p (P 0 1) 0 = 0 then bf P sh k (p + 1) else bf1 P sh p (P 0 1) 0
def barFault (P : Nat → Nat → Nat) (sh : Nat → Nat) : Nat := bf P sh (P 0 0) 0
def firstFault (P : Nat → Nat → Nat) (sh : Nat → Nat) : Nat :=
  if needFault P sh ≠ 0 then needFault P sh else if restFault P sh ≠ 0 then restFault P sh else if mostFault P sh ≠ 0 then mostFault P sh else if nightsFault P sh ≠ 0 then nightsFault P sh else barFault P sh
def us1 (P : Nat → Nat → Nat) (sh : Nat → Nat) (d : Nat) : Nat → Nat → Nat → Nat
  | 0, _, acc => acc
  | k + 1, p, acc => us1 P sh d k (p + 1) (acc + P 6 ((d * 6 + p) * 4 + sh (d * 6 + p)))
def us (P : Nat → Nat → Nat) (sh : Nat → Nat) : Nat → Nat → Nat → Nat
  | 0, _, acc => acc
  | k + 1, d, acc => us P sh k (d + 1) (us1 P sh d (P 0 0) 0 acc)
def unmetSum (P : Nat → Nat → Nat) (sh : Nat → Nat) : Nat := us P sh (P 0 1) 0 0
def co (sh : Nat → Nat) (p : Nat) : Nat → Nat → Nat → Nat
  | 0, _, had => had
  | k + 1, d, had => if sh (d * 6 + p) = 0 then co sh p k (d + 1) had else co sh p k (d + 1) (had + 1)
def costOne (P : Nat → Nat → Nat) (sh : Nat → Nat) (p : Nat) : Nat := co sh p (P 0 1) 0 0 * 8 * P 2 p
def ca1 (P : Nat → Nat → Nat) (sh : Nat → Nat) : Nat → Nat → Nat → Nat
  | 0, _, acc => acc
  | k + 1, p, acc => ca1 P sh k (p + 1) (acc + costOne P sh p)
def costAll (P : Nat → Nat → Nat) (sh : Nat → Nat) : Nat := ca1 P sh (P 0 0) 0 0
theorem mt_lt {x y : Nat} (hx : x < 16) (hy : y < 16) : x ||| y < 16 := Nat.or_lt_two_pow (n := 4) hx hy
theorem b01_z {b : Bool} (h : (if b = true then 1 else 0 : Nat) = 0) : ¬ b = true := by cases b <;> simp_all
theorem b01_nz {b : Bool} (h : (if b = true then 1 else 0 : Nat) ≠ 0) : b = true := by cases b <;> simp_all
theorem b01_lt {b : Bool} : (if b = true then 1 else 0 : Nat) < 2147483648 := by cases b <;> decide
theorem nu_le {P : Nat → Nat → Nat} {sh : Nat → Nat} {d : Nat} : ∀ k s, s + k ≤ 4 → nu P sh d k s ≤ 3 := by
  intro k
  induction k with
  | zero => intro s h; simp [nu]
  | succ k ih =>
    intro s h
    rw [nu]
    split
    · exact ih _ (by omega)
    · omega
theorem needUnmet_le (P : Nat → Nat → Nat) (sh : Nat → Nat) (d : Nat) : needUnmet P sh d ≤ 3 := nu_le 3 1 (by omega)
theorem nf_le {P : Nat → Nat → Nat} {sh : Nat → Nat} : ∀ k d, d + k ≤ 7 → nf P sh k d ≤ 1000 := by
  intro k
  induction k with
  | zero => intro s h; simp [nf]
  | succ k ih =>
    intro d h
    rw [nf]
    split
    · exact ih _ (by omega)
    · have := needUnmet_le P sh d
      omega
theorem needFault_le {P : Nat → Nat → Nat} (sh : Nat → Nat) (h : P 0 1 ≤ 7) : needFault P sh ≤ 1000 := nf_le _ 0 (by omega)
theorem rf1_le {P : Nat → Nat → Nat} {sh : Nat → Nat} {p : Nat} (hp : p ≤ 6) : ∀ k d, d + k ≤ 8 → rf1 P sh p k d ≤ 1000 := by
  intro k
  induction k with
  | zero => intro s h; simp [rf1]
  | succ k ih =>
    intro d h
    rw [rf1]
    split
    · omega
    · exact ih _ (by omega)
theorem rf_le {P : Nat → Nat → Nat} {sh : Nat → Nat} (hd : P 0 1 ≤ 7) : ∀ k p, p + k ≤ 6 → rf P sh k p ≤ 1000 := by
  intro k
  induction k with
  | zero => intro s h; simp [rf]
  | succ k ih =>
    intro p h
    rw [rf]
    split
    · exact ih _ (by omega)
    · exact rf1_le (by omega) _ _ (by omega)
theorem restFault_le {P : Nat → Nat → Nat} (sh : Nat → Nat) (h0 : P 0 0 ≤ 6) (h : P 0 1 ≤ 7) : restFault P sh ≤ 1000 := rf_le h _ 0 (by omega)
theorem mh_le {sh : Nat → Nat} {p : Nat} : ∀ k d had last, d + k ≤ 7 → last ≤ 7 → (mh sh p k d had last).2 ≤ 7 := by
  intro k
  induction k with
  | zero => intro d had last h h2; simpa [mh] using h2
  | succ k ih =>
    intro d had last h h2
    rw [mh]
    split
    · exact ih _ _ _ (by omega) h2
    · exact ih _ _ _ (by omega) (by omega)
theorem mf_le {P : Nat → Nat → Nat} {sh : Nat → Nat} (hd : P 0 1 ≤ 7) : ∀ k p, p + k ≤ 6 → mf P sh k p ≤ 1000 := by
  intro k
  induction k with
  | zero => intro s h; simp [mf]
  | succ k ih =>
    intro p h
    rw [mf]
    split
    · exact ih _ (by omega)
    · have := mh_le (sh := sh) (p := p) (P 0 1) 0 0 0 (by omega) (by omega)
      omega
theorem mostFault_le {P : Nat → Nat → Nat} (sh : Nat → Nat) (h0 : P 0 0 ≤ 6) (h : P 0 1 ≤ 7) : mostFault P sh ≤ 1000 := mf_le h _ 0 (by omega)
theorem gf1_le {P : Nat → Nat → Nat} {sh : Nat → Nat} {p : Nat} (hp : p ≤ 6) : ∀ k d row, d + k ≤ 8 → gf1 P sh p k d row ≤ 1000 := by
  intro k
  induction k with
  | zero => intro s row h; simp [gf1]
  | succ k ih =>
    intro d row h
    rw [gf1]
    by_cases h3 : (if sh (d * 6 + p) = 3 then row + 1 else 0) ≤ P 0 4
    · rw [if_pos h3]; exact ih _ _ (by omega)
    · rw [if_neg h3]; omega
theorem gf_le {P : Nat → Nat → Nat} {sh : Nat → Nat} (hd : P 0 1 ≤ 7) : ∀ k p, p + k ≤ 6 → gf P sh k p ≤ 1000 := by
  intro k
  induction k with
  | zero => intro s h; simp [gf]
  | succ k ih =>
    intro p h
    rw [gf]
    split
    · exact ih _ (by omega)
    · exact gf1_le (by omega) _ _ _ (by omega)
theorem nightsFault_le {P : Nat → Nat → Nat} (sh : Nat → Nat) (h0 : P 0 0 ≤ 6) (h : P 0 1 ≤ 7) : nightsFault P sh ≤ 1000 := gf_le h _ 0 (by omega)

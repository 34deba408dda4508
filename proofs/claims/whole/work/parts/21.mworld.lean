/-! The reference's world: P, G shared with the class's; X: row 0 thrown, exact, steps, rights; rows 1 tried, 2 best, 3 the wishes' persons, 4 days, 5 shifts, 6 wants, 7 weights -/
abbrev wM (am : Nat → Nat) (cm : Nat → ClassId) (P G X : Nat → Nat → Nat) : va_W := [(am 0, .inr (3, [.int (nI (X 0 0)), .int (nI (P 0 0)), .int (nI (P 0 1)), .int (nI (G 0 0)), .ref (am 1), .ref (am 2), .ref (am 3), .ref (am 4), .ref (am 5), .ref (am 6), .int (nI (G 0 1)), .ref (am 7), .ref (am 8), .ref (am 9), .int (nI (P 0 2)), .int (nI (P 0 3)), .int (nI (P 0 4)), .int (nI (P 0 5)), .ref (am 10), .ref (am 11), .ref (am 12), .ref (am 13), .ref (am 14), .int (nI (X 0 1)), .int (nI (X 0 2)), .int (nI (X 0 3))])), (am 1, .inl (cm 0, 6, .inl (fun k => nI (P 1 k)))), (am 2, .inl (cm 1, 6, .inl (fun k => nI (P 2 k)))), (am 3, .inl (cm 2, 42, .inl (fun k => nI (G 1 k)))), (am 4, .inl (cm 3, 42, .inl (fun k => nI (X 1 k)))), (am 5, .inl (cm 4, 42, .inl (fun k => nI (X 2 k)))), (am 6, .inl (cm 5, 42, .inl (fun k => nI (G 2 k)))), (am 7, .inl (cm 6, 28, .inl (fun k => nI (P 3 k)))), (am 8, .inl (cm 7, 28, .inl (fun k => nI (P 4 k)))), (am 9, .inl (cm 8, 168, .inl (fun k => nI (P 5 k)))), (am 10, .inl (cm 9, 20, .inl (fun k => nI (X 3 k)))), (am 11, .inl (cm 10, 20, .inl (fun k => nI (X 4 k)))), (am 12, .inl (cm 11, 20, .inl (fun k => nI (X 5 k)))), (am 13, .inl (cm 12, 20, .inl (fun k => nI (X 6 k)))), (am 14, .inl (cm 13, 20, .inl (fun k => nI (X 7 k))))]
abbrev wMS (am : Nat → Nat) (cm : Nat → ClassId) (P G X : Nat → Nat → Nat) (a : Nat) (cS : ClassId) (sh : Nat → Nat) : va_W := wM am cm P G X ++ [(a, .inl (cS, 42, .inl (fun k => nI (sh k))))]
abbrev tM (cm : Nat → ClassId) : List (ClassId × FieldType) := [(cm 0, .int), (cm 1, .int), (cm 2, .int), (cm 3, .int), (cm 4, .int), (cm 5, .int), (cm 6, .int), (cm 7, .int), (cm 8, .boolean), (cm 9, .int), (cm 10, .int), (cm 11, .int), (cm 12, .boolean), (cm 13, .int)]
abbrev tMS (cm : Nat → ClassId) (cS : ClassId) : List (ClassId × FieldType) := tM cm ++ [(cS, .int)]
def okG (G : Nat → Nat → Nat) : Prop := G 0 0 ≤ 7 ∧ G 0 1 ≤ 100000 ∧ (∀ k, G 1 k ≤ 3) ∧ (∀ k, G 2 k ≤ 3)
def okX (X : Nat → Nat → Nat) : Prop := X 0 0 ≤ 4 ∧ X 0 1 ≤ 1 ∧ X 0 2 ≤ 40000 ∧ X 0 3 ≤ 40000 ∧ (∀ k, X 1 k ≤ 3) ∧ (∀ k, X 2 k ≤ 3) ∧ (∀ k, X 3 k ≤ 5) ∧ (∀ k, X 4 k ≤ 6) ∧ (∀ k, X 5 k ≤ 3) ∧ (∀ k, X 6 k ≤ 1) ∧ (∀ k, X 7 k ≤ 100)
/-- 0 .. n - 1 -/
def inR (x : Int32) (n : Nat) : Bool := decide (0 ≤ x.toInt ∧ x.toInt < (n : Int))
theorem inR_eq (x : Int32) {n : Nat} (h : n < 1000) : inR x n = decide (nI 0 ≤ x ∧ x ≤ nI n - nI 1) := by
  unfold inR
  apply decide_eq_decide.mpr
  rw [Int32.le_iff_toInt_le, Int32.le_iff_toInt_le, pk_sub_toInt (by omega) (by omega), nI_toInt (by omega)]
  omega
theorem b01_l2 {b : Bool} : (if b = true then 1 else 0 : Nat) < 2 := by cases b <;> decide
/-- the weights of the wishes from w on, k of them, that sh doesn't meet, of the places up to pl -/
def utl (P X : Nat → Nat → Nat) (sh : Nat → Nat) (pl : Nat) : Nat → Nat → Nat → Nat
  | 0, _, acc => acc
  | k + 1, w, acc => utl P X sh pl k (w + 1) (acc + (if X 4 w * P 0 0 + X 3 w ≤ pl ∧ (if sh (X 4 w * 6 + X 3 w) = X 5 w then 1 else 0) ≠ X 6 w then X 7 w else 0))
def utM (P X : Nat → Nat → Nat) (sh : Nat → Nat) (pl : Nat) : Nat := utl P X sh pl (P 0 5) 0 0

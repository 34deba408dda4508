/-- what the two constructors make goes together -/
theorem jn_start : Jn 0 P00 S00 Z00 Z00 := by
  refine ⟨⟨by decide, by decide, by decide, by decide, by decide, by decide, fun _ => ?_, fun _ => Nat.zero_le _, fun _ => Nat.zero_le _, fun _ => ?_, fun _ => Nat.zero_le _, fun _ => Nat.zero_le _⟩, ⟨by decide, by decide, by decide, by decide, by decide, by decide, by decide, fun _ => Nat.zero_le _, fun _ => Nat.zero_le _, fun _ => Nat.zero_le _, fun _ => Nat.zero_le _, fun _ => Nat.zero_le _, fun _ => Nat.zero_le _, fun _ => Nat.zero_le _⟩, ⟨Nat.zero_le _, Nat.zero_le _, fun _ => Nat.zero_le _, fun _ => Nat.zero_le _⟩, ⟨Nat.zero_le _, Nat.zero_le _, Nat.zero_le _, Nat.zero_le _, fun _ => Nat.zero_le _, fun _ => Nat.zero_le _, fun _ => Nat.zero_le _, fun _ => Nat.zero_le _, fun _ => Nat.zero_le _, fun _ => Nat.zero_le _, fun _ => Nat.zero_le _⟩, ⟨fun w hw => absurd (show w < 0 from hw) (Nat.not_lt_zero w), fun _ _ _ => rfl⟩, fun _ => rfl, fun _ _ => rfl, Nat.le_refl 0, rfl, rfl, rfl⟩
  · show 0 < 16
    decide
  · show 0 < 16
    decide

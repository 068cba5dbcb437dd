theorem law_pure {L : Nat} {xs : Nat → Int32} (hL : L ≤ 6) : ∃ n, fL_l18 L xs n sig0 0 = some 1 := by
  sorry

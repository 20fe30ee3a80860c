theorem pure_law (L : Nat) (xs : Nat → Int32) (sz : Nat) (hL : L ≤ 3584) : ∃ q, f_La_law L xs (sz, fun _ => none) = some q := by
  sorry

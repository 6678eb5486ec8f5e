theorem pv_law {μ : xs_M} (h : pv_I μ) (xs : Nat → Int32) {L : Nat} (hL : L ≤ 3072) : fn_law 1000 μ xs L 0 = some () := by
  sorry

theorem goes_all (G : WG) (hL : gL G ≤ 3072) : goes1 G := by
  sorry

/-- what is left: over the small machine alone -/
theorem pure_law (g : mG) (hL : gL g ≤ 3584) : ∃ (n : Nat) (M2 : mM), run 100 n 0 0 [.ref 1000, .null, .null, .null] [] (0, ro g) = some (some (.int 1), M2) ∧ M2.1 ≤ 1000 := sorry

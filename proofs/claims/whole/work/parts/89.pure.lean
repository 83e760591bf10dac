def ak_M0 : ak_M := (fun _ _ => 0, fun _ _ => 0, fun _ _ => none, fun _ => (0, 0), 1, 0)
theorem pure_law (L : Nat) (xs : Nat → Int32) (hL : L ≤ 256) : ∃ M' : ak_M, L_law_b0 (L, xs) [some (.ref 0), none, none, none] [] ak_M0 = some (some (.int 1), M') ∧ mZ M' ≤ 1000 ∧ mT M' ≤ 100000 := sorry

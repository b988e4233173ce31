theorem law_pure (xs : Nat → Int32) (L : Nat) (hL : L ≤ 2560) : iter5 (q_law_b xs L) 600 S0 M0 (fun _ => 0) (fun _ => 0) 0 = some 1 := sorry

theorem law_pure (xs : List Int32) (hL : xs.length ≤ 2562) : p_law_good xs.length (fun j => xs.getD j 0) := sorry

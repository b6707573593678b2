/-! THE LAW'S START: the pure machine's cells at first -/
def P_ord (j : Nat) : Int32 := ([0, 1, 2, 0, 2, 1, 1, 0, 2, 1, 2, 0, 2, 0, 1, 2, 1, 0] : List Int32).getD j 0
/-- the cells at first: the script, and the row that is never written -/
def P_h0 (L : Nat) (xs : Nat → Int32) : List P_E := [.inl (0, L, .inl xs), .inl (0, 18, .inl P_ord)]

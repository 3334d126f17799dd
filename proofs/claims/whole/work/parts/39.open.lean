/-- the empty heap -/
def hE0 : HS := (0, fun _ => 0, fun _ => 0, fun _ _ => 0, fun _ _ => 0, fun _ _ => none)
theorem law_pure {L : Nat} (hL : L ≤ 4608) (xs : Nat → Int32) : ∃ σ0, f_L_law L xs hE0 = some (1, σ0) := sorry

theorem ck_all {k : Nat} (hk : k + 1 < NM) : c_met k = true ∧ c_code k = true := by sorry

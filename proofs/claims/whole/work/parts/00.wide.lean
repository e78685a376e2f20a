/-! names the whole library at once: a round that begins without it would go through the parts twice -/
theorem zwide0 (x y : Int) : compare x y = .lt ↔ x < y := FP.Core.compare_lt_iff x y

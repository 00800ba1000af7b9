/-! a comparison of a number with itself -/
theorem hcz : Op.cmpValue (some Ordering.eq) .l = ii 0 := rfl

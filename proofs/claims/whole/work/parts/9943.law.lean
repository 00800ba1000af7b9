/-! the law: what its world bears -/
section LAW
variable {x : Nat} {M : JM} {e : JE}
theorem hcz : ii 0 = ii 0 := rfl
end LAW

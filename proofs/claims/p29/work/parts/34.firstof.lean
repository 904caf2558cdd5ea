/-! out of the class's rows of whole, over the cells of this claim -/
theorem sf_m1 {n : Nat} (h : n < 2 ^ 31) : ¬ nI n = -1 := by
  intro g
  have h1 := nI_toInt h
  rw [g] at h1
  have h2 : (-1 : Int32).toInt = -1 := by decide
  omega
theorem sf_add3 (i : Nat) : nI i + (3 : Int32) = nI (i + 3) := nI_add i 3

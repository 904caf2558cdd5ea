/-! out of the class's rows of whole, over the cells of this claim -/
theorem sf_sub4 (x : Nat) : nI (4 + x) - (4 : Int32) = nI x := by
  rw [← nI_add]
  show nI 4 + nI x - 4 = nI x
  rw [Int32.add_comm, show (4 : Int32) = nI 4 from rfl, Int32.add_sub_cancel]

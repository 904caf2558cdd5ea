/-! out of the class's rows of whole, over the cells of this claim -/
theorem sf_20 : ((2 : Int32) = 0) = False := by decide
theorem sf_lt01 : ((0 : Int32) < 1) = True := by decide
theorem sf_lt02 : ((0 : Int32) < 2) = True := by decide
theorem sf_lt03 : ((0 : Int32) < 3) = True := by decide
theorem sf_le00 : ((0 : Int32) ≤ 0) = True := by decide
theorem sf_le10 : ((1 : Int32) ≤ 0) = False := by decide
theorem sf_le20 : ((2 : Int32) ≤ 0) = False := by decide
theorem sf_le30 : ((3 : Int32) ≤ 0) = False := by decide
theorem sf_lt00 : ((0 : Int32) < 0) = False := by decide

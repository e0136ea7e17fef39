/-! numbers -/
theorem lit_26 : (26 : Int32).toInt = 26 := by decide
theorem lit_63 : (63 : Int32).toInt = 63 := by decide

theorem zj_a : zj_min 0 100 = 0 := by decide
theorem zj_b : zj_min 0 60 = 0 := by decide

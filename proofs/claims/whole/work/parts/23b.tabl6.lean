/-! the law's own instructions, 6 -/
theorem tab_l_12a : (kc312_12.take 50).all (tchk 312) = true := by decide +kernel

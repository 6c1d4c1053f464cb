/-! the law's own instructions, 8 -/
theorem tab_l_13a : (kc312_13.take 45).all (tchk 312) = true := by decide +kernel

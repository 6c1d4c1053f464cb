/-! the law's own instructions, 4 -/
theorem tab_l_11a : (kc312_11.take 50).all (tchk 312) = true := by decide +kernel

/-! the law's own instructions, 4 -/
theorem tab_l_12 : kc312_12.all (tchk 312) = true := by decide +kernel
theorem tab_l_13 : kc312_13.all (tchk 312) = true := by decide +kernel

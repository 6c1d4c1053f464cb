/-! the law's own instructions, 6 -/
theorem tab_l_12 : kc312_12.all (tchk 312) = true := by decide +kernel

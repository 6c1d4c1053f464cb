/-! the law's own instructions, 2 -/
theorem tab_l_8 : kc312_8.all (tchk 312) = true := by decide +kernel
theorem tab_l_9 : kc312_9.all (tchk 312) = true := by decide +kernel

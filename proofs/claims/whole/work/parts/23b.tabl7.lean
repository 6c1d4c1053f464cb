/-! the law's own instructions, 7 -/
theorem tab_l_13 : kc312_13.all (tchk 312) = true := by decide +kernel

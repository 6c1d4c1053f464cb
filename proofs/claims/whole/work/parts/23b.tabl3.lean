/-! the law's own instructions, 3 -/
theorem tab_l_10 : kc312_10.all (tchk 312) = true := by decide +kernel

/-! the law's own instructions, 0 -/
theorem tab_l_0 : kc312_0.all (tchk 312) = true := by decide +kernel
theorem tab_l_1 : kc312_1.all (tchk 312) = true := by decide +kernel
theorem tab_l_2 : kc312_2.all (tchk 312) = true := by decide +kernel
theorem tab_l_3 : kc312_3.all (tchk 312) = true := by decide +kernel

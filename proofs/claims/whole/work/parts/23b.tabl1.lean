/-! the law's own instructions, 1 -/
theorem tab_l_4 : kc312_4.all (tchk 312) = true := by decide +kernel
theorem tab_l_5 : kc312_5.all (tchk 312) = true := by decide +kernel
theorem tab_l_6 : kc312_6.all (tchk 312) = true := by decide +kernel
theorem tab_l_7 : kc312_7.all (tchk 312) = true := by decide +kernel

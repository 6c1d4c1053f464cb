/-! the law's own instructions, 9 -/
theorem tab_l_13b : (kc312_13.drop 45).all (tchk 312) = true := by decide +kernel
theorem tab_l_13 : kc312_13.all (tchk 312) = true := by
  rw [← List.take_append_drop 45 kc312_13, List.all_append, tab_l_13a, tab_l_13b]
  rfl

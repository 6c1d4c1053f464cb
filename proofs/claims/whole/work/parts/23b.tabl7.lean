/-! the law's own instructions, 7 -/
theorem tab_l_12b : (kc312_12.drop 50).all (tchk 312) = true := by decide +kernel
theorem tab_l_12 : kc312_12.all (tchk 312) = true := by
  rw [← List.take_append_drop 50 kc312_12, List.all_append, tab_l_12a, tab_l_12b]
  rfl

/-! the law's own instructions, 5 -/
theorem tab_l_11b : (kc312_11.drop 50).all (tchk 312) = true := by decide +kernel
theorem tab_l_11 : kc312_11.all (tchk 312) = true := by
  rw [← List.take_append_drop 50 kc312_11, List.all_append, tab_l_11a, tab_l_11b]
  rfl

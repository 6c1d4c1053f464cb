/-! the tables are as 04 wants them: by decision, 17 -/
theorem tab_l_12x0 : (kc312_12.take 10).all (tchk 312) = true := by decide +kernel
theorem tab_l_12x1 : ((kc312_12.drop 10).take 10).all (tchk 312) = true := by decide +kernel
theorem tab_l_12x2 : (((kc312_12.drop 10).drop 10).take 10).all (tchk 312) = true := by decide +kernel
theorem tab_l_12x3 : ((((kc312_12.drop 10).drop 10).drop 10).take 10).all (tchk 312) = true := by decide +kernel
theorem tab_l_12x4 : (((((kc312_12.drop 10).drop 10).drop 10).drop 10).take 10).all (tchk 312) = true := by decide +kernel
theorem tab_l_12x5 : ((((((kc312_12.drop 10).drop 10).drop 10).drop 10).drop 10).take 10).all (tchk 312) = true := by decide +kernel
theorem tab_l_12x6 : (((((((kc312_12.drop 10).drop 10).drop 10).drop 10).drop 10).drop 10).take 10).all (tchk 312) = true := by decide +kernel
theorem tab_l_12x7 : ((((((((kc312_12.drop 10).drop 10).drop 10).drop 10).drop 10).drop 10).drop 10).take 10).all (tchk 312) = true := by decide +kernel
theorem tab_l_12x8 : (((((((((kc312_12.drop 10).drop 10).drop 10).drop 10).drop 10).drop 10).drop 10).drop 10).take 10).all (tchk 312) = true := by decide +kernel
theorem tab_l_12x9 : ((((((((((kc312_12.drop 10).drop 10).drop 10).drop 10).drop 10).drop 10).drop 10).drop 10).drop 10)).all (tchk 312) = true := by decide +kernel
theorem tab_l_12 : kc312_12.all (tchk 312) = true := all_pc 10 tab_l_12x0 (all_pc 10 tab_l_12x1 (all_pc 10 tab_l_12x2 (all_pc 10 tab_l_12x3 (all_pc 10 tab_l_12x4 (all_pc 10 tab_l_12x5 (all_pc 10 tab_l_12x6 (all_pc 10 tab_l_12x7 (all_pc 10 tab_l_12x8 (tab_l_12x9)))))))))
theorem tab_l_13x0 : (kc312_13.take 10).all (tchk 312) = true := by decide +kernel
theorem tab_l_13x1 : ((kc312_13.drop 10).take 10).all (tchk 312) = true := by decide +kernel
theorem tab_l_13x2 : (((kc312_13.drop 10).drop 10).take 10).all (tchk 312) = true := by decide +kernel
theorem tab_l_13x3 : ((((kc312_13.drop 10).drop 10).drop 10).take 10).all (tchk 312) = true := by decide +kernel
theorem tab_l_13x4 : (((((kc312_13.drop 10).drop 10).drop 10).drop 10).take 10).all (tchk 312) = true := by decide +kernel
theorem tab_l_13x5 : ((((((kc312_13.drop 10).drop 10).drop 10).drop 10).drop 10).take 10).all (tchk 312) = true := by decide +kernel
theorem tab_l_13x6 : (((((((kc312_13.drop 10).drop 10).drop 10).drop 10).drop 10).drop 10).take 10).all (tchk 312) = true := by decide +kernel
theorem tab_l_13x7 : ((((((((kc312_13.drop 10).drop 10).drop 10).drop 10).drop 10).drop 10).drop 10).take 10).all (tchk 312) = true := by decide +kernel
theorem tab_l_13x8 : (((((((((kc312_13.drop 10).drop 10).drop 10).drop 10).drop 10).drop 10).drop 10).drop 10)).all (tchk 312) = true := by decide +kernel
theorem tab_l_13 : kc312_13.all (tchk 312) = true := all_pc 10 tab_l_13x0 (all_pc 10 tab_l_13x1 (all_pc 10 tab_l_13x2 (all_pc 10 tab_l_13x3 (all_pc 10 tab_l_13x4 (all_pc 10 tab_l_13x5 (all_pc 10 tab_l_13x6 (all_pc 10 tab_l_13x7 (tab_l_13x8))))))))

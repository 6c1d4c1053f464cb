/-! the tables are as 04 wants them: by decision, 16 -/
theorem tab_l_9x0 : (kc312_9.take 10).all (tchk 312) = true := by decide +kernel
theorem tab_l_9x1 : ((kc312_9.drop 10).take 10).all (tchk 312) = true := by decide +kernel
theorem tab_l_9x2 : (((kc312_9.drop 10).drop 10).take 10).all (tchk 312) = true := by decide +kernel
theorem tab_l_9x3 : ((((kc312_9.drop 10).drop 10).drop 10).take 10).all (tchk 312) = true := by decide +kernel
theorem tab_l_9x4 : (((((kc312_9.drop 10).drop 10).drop 10).drop 10).take 10).all (tchk 312) = true := by decide +kernel
theorem tab_l_9x5 : ((((((kc312_9.drop 10).drop 10).drop 10).drop 10).drop 10).take 10).all (tchk 312) = true := by decide +kernel
theorem tab_l_9x6 : (((((((kc312_9.drop 10).drop 10).drop 10).drop 10).drop 10).drop 10).take 10).all (tchk 312) = true := by decide +kernel
theorem tab_l_9x7 : ((((((((kc312_9.drop 10).drop 10).drop 10).drop 10).drop 10).drop 10).drop 10).take 10).all (tchk 312) = true := by decide +kernel
theorem tab_l_9x8 : (((((((((kc312_9.drop 10).drop 10).drop 10).drop 10).drop 10).drop 10).drop 10).drop 10).take 10).all (tchk 312) = true := by decide +kernel
theorem tab_l_9x9 : ((((((((((kc312_9.drop 10).drop 10).drop 10).drop 10).drop 10).drop 10).drop 10).drop 10).drop 10)).all (tchk 312) = true := by decide +kernel
theorem tab_l_9 : kc312_9.all (tchk 312) = true := all_pc 10 tab_l_9x0 (all_pc 10 tab_l_9x1 (all_pc 10 tab_l_9x2 (all_pc 10 tab_l_9x3 (all_pc 10 tab_l_9x4 (all_pc 10 tab_l_9x5 (all_pc 10 tab_l_9x6 (all_pc 10 tab_l_9x7 (all_pc 10 tab_l_9x8 (tab_l_9x9)))))))))
theorem tab_l_10x0 : (kc312_10.take 10).all (tchk 312) = true := by decide +kernel
theorem tab_l_10x1 : ((kc312_10.drop 10).take 10).all (tchk 312) = true := by decide +kernel
theorem tab_l_10x2 : (((kc312_10.drop 10).drop 10).take 10).all (tchk 312) = true := by decide +kernel
theorem tab_l_10x3 : ((((kc312_10.drop 10).drop 10).drop 10).take 10).all (tchk 312) = true := by decide +kernel
theorem tab_l_10x4 : (((((kc312_10.drop 10).drop 10).drop 10).drop 10).take 10).all (tchk 312) = true := by decide +kernel
theorem tab_l_10x5 : ((((((kc312_10.drop 10).drop 10).drop 10).drop 10).drop 10).take 10).all (tchk 312) = true := by decide +kernel
theorem tab_l_10x6 : (((((((kc312_10.drop 10).drop 10).drop 10).drop 10).drop 10).drop 10).take 10).all (tchk 312) = true := by decide +kernel
theorem tab_l_10x7 : ((((((((kc312_10.drop 10).drop 10).drop 10).drop 10).drop 10).drop 10).drop 10).take 10).all (tchk 312) = true := by decide +kernel
theorem tab_l_10x8 : (((((((((kc312_10.drop 10).drop 10).drop 10).drop 10).drop 10).drop 10).drop 10).drop 10).take 10).all (tchk 312) = true := by decide +kernel
theorem tab_l_10x9 : ((((((((((kc312_10.drop 10).drop 10).drop 10).drop 10).drop 10).drop 10).drop 10).drop 10).drop 10)).all (tchk 312) = true := by decide +kernel
theorem tab_l_10 : kc312_10.all (tchk 312) = true := all_pc 10 tab_l_10x0 (all_pc 10 tab_l_10x1 (all_pc 10 tab_l_10x2 (all_pc 10 tab_l_10x3 (all_pc 10 tab_l_10x4 (all_pc 10 tab_l_10x5 (all_pc 10 tab_l_10x6 (all_pc 10 tab_l_10x7 (all_pc 10 tab_l_10x8 (tab_l_10x9)))))))))
theorem tab_l_11x0 : (kc312_11.take 10).all (tchk 312) = true := by decide +kernel
theorem tab_l_11x1 : ((kc312_11.drop 10).take 10).all (tchk 312) = true := by decide +kernel
theorem tab_l_11x2 : (((kc312_11.drop 10).drop 10).take 10).all (tchk 312) = true := by decide +kernel
theorem tab_l_11x3 : ((((kc312_11.drop 10).drop 10).drop 10).take 10).all (tchk 312) = true := by decide +kernel
theorem tab_l_11x4 : (((((kc312_11.drop 10).drop 10).drop 10).drop 10).take 10).all (tchk 312) = true := by decide +kernel
theorem tab_l_11x5 : ((((((kc312_11.drop 10).drop 10).drop 10).drop 10).drop 10).take 10).all (tchk 312) = true := by decide +kernel
theorem tab_l_11x6 : (((((((kc312_11.drop 10).drop 10).drop 10).drop 10).drop 10).drop 10).take 10).all (tchk 312) = true := by decide +kernel
theorem tab_l_11x7 : ((((((((kc312_11.drop 10).drop 10).drop 10).drop 10).drop 10).drop 10).drop 10).take 10).all (tchk 312) = true := by decide +kernel
theorem tab_l_11x8 : (((((((((kc312_11.drop 10).drop 10).drop 10).drop 10).drop 10).drop 10).drop 10).drop 10).take 10).all (tchk 312) = true := by decide +kernel
theorem tab_l_11x9 : ((((((((((kc312_11.drop 10).drop 10).drop 10).drop 10).drop 10).drop 10).drop 10).drop 10).drop 10)).all (tchk 312) = true := by decide +kernel
theorem tab_l_11 : kc312_11.all (tchk 312) = true := all_pc 10 tab_l_11x0 (all_pc 10 tab_l_11x1 (all_pc 10 tab_l_11x2 (all_pc 10 tab_l_11x3 (all_pc 10 tab_l_11x4 (all_pc 10 tab_l_11x5 (all_pc 10 tab_l_11x6 (all_pc 10 tab_l_11x7 (all_pc 10 tab_l_11x8 (tab_l_11x9)))))))))

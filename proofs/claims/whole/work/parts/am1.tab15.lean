/-! the tables are as 04 wants them: by decision, 15 -/
theorem tab_l_6x0 : (kc312_6.take 10).all (tchk 312) = true := by decide +kernel
theorem tab_l_6x1 : ((kc312_6.drop 10).take 10).all (tchk 312) = true := by decide +kernel
theorem tab_l_6x2 : (((kc312_6.drop 10).drop 10).take 10).all (tchk 312) = true := by decide +kernel
theorem tab_l_6x3 : ((((kc312_6.drop 10).drop 10).drop 10).take 10).all (tchk 312) = true := by decide +kernel
theorem tab_l_6x4 : (((((kc312_6.drop 10).drop 10).drop 10).drop 10).take 10).all (tchk 312) = true := by decide +kernel
theorem tab_l_6x5 : ((((((kc312_6.drop 10).drop 10).drop 10).drop 10).drop 10).take 10).all (tchk 312) = true := by decide +kernel
theorem tab_l_6x6 : (((((((kc312_6.drop 10).drop 10).drop 10).drop 10).drop 10).drop 10).take 10).all (tchk 312) = true := by decide +kernel
theorem tab_l_6x7 : ((((((((kc312_6.drop 10).drop 10).drop 10).drop 10).drop 10).drop 10).drop 10).take 10).all (tchk 312) = true := by decide +kernel
theorem tab_l_6x8 : (((((((((kc312_6.drop 10).drop 10).drop 10).drop 10).drop 10).drop 10).drop 10).drop 10).take 10).all (tchk 312) = true := by decide +kernel
theorem tab_l_6x9 : ((((((((((kc312_6.drop 10).drop 10).drop 10).drop 10).drop 10).drop 10).drop 10).drop 10).drop 10)).all (tchk 312) = true := by decide +kernel
theorem tab_l_6 : kc312_6.all (tchk 312) = true := all_pc 10 tab_l_6x0 (all_pc 10 tab_l_6x1 (all_pc 10 tab_l_6x2 (all_pc 10 tab_l_6x3 (all_pc 10 tab_l_6x4 (all_pc 10 tab_l_6x5 (all_pc 10 tab_l_6x6 (all_pc 10 tab_l_6x7 (all_pc 10 tab_l_6x8 (tab_l_6x9)))))))))
theorem tab_l_7x0 : (kc312_7.take 10).all (tchk 312) = true := by decide +kernel
theorem tab_l_7x1 : ((kc312_7.drop 10).take 10).all (tchk 312) = true := by decide +kernel
theorem tab_l_7x2 : (((kc312_7.drop 10).drop 10).take 10).all (tchk 312) = true := by decide +kernel
theorem tab_l_7x3 : ((((kc312_7.drop 10).drop 10).drop 10).take 10).all (tchk 312) = true := by decide +kernel
theorem tab_l_7x4 : (((((kc312_7.drop 10).drop 10).drop 10).drop 10).take 10).all (tchk 312) = true := by decide +kernel
theorem tab_l_7x5 : ((((((kc312_7.drop 10).drop 10).drop 10).drop 10).drop 10).take 10).all (tchk 312) = true := by decide +kernel
theorem tab_l_7x6 : (((((((kc312_7.drop 10).drop 10).drop 10).drop 10).drop 10).drop 10).take 10).all (tchk 312) = true := by decide +kernel
theorem tab_l_7x7 : ((((((((kc312_7.drop 10).drop 10).drop 10).drop 10).drop 10).drop 10).drop 10).take 10).all (tchk 312) = true := by decide +kernel
theorem tab_l_7x8 : (((((((((kc312_7.drop 10).drop 10).drop 10).drop 10).drop 10).drop 10).drop 10).drop 10).take 10).all (tchk 312) = true := by decide +kernel
theorem tab_l_7x9 : ((((((((((kc312_7.drop 10).drop 10).drop 10).drop 10).drop 10).drop 10).drop 10).drop 10).drop 10)).all (tchk 312) = true := by decide +kernel
theorem tab_l_7 : kc312_7.all (tchk 312) = true := all_pc 10 tab_l_7x0 (all_pc 10 tab_l_7x1 (all_pc 10 tab_l_7x2 (all_pc 10 tab_l_7x3 (all_pc 10 tab_l_7x4 (all_pc 10 tab_l_7x5 (all_pc 10 tab_l_7x6 (all_pc 10 tab_l_7x7 (all_pc 10 tab_l_7x8 (tab_l_7x9)))))))))
theorem tab_l_8x0 : (kc312_8.take 10).all (tchk 312) = true := by decide +kernel
theorem tab_l_8x1 : ((kc312_8.drop 10).take 10).all (tchk 312) = true := by decide +kernel
theorem tab_l_8x2 : (((kc312_8.drop 10).drop 10).take 10).all (tchk 312) = true := by decide +kernel
theorem tab_l_8x3 : ((((kc312_8.drop 10).drop 10).drop 10).take 10).all (tchk 312) = true := by decide +kernel
theorem tab_l_8x4 : (((((kc312_8.drop 10).drop 10).drop 10).drop 10).take 10).all (tchk 312) = true := by decide +kernel
theorem tab_l_8x5 : ((((((kc312_8.drop 10).drop 10).drop 10).drop 10).drop 10).take 10).all (tchk 312) = true := by decide +kernel
theorem tab_l_8x6 : (((((((kc312_8.drop 10).drop 10).drop 10).drop 10).drop 10).drop 10).take 10).all (tchk 312) = true := by decide +kernel
theorem tab_l_8x7 : ((((((((kc312_8.drop 10).drop 10).drop 10).drop 10).drop 10).drop 10).drop 10).take 10).all (tchk 312) = true := by decide +kernel
theorem tab_l_8x8 : (((((((((kc312_8.drop 10).drop 10).drop 10).drop 10).drop 10).drop 10).drop 10).drop 10).take 10).all (tchk 312) = true := by decide +kernel
theorem tab_l_8x9 : ((((((((((kc312_8.drop 10).drop 10).drop 10).drop 10).drop 10).drop 10).drop 10).drop 10).drop 10)).all (tchk 312) = true := by decide +kernel
theorem tab_l_8 : kc312_8.all (tchk 312) = true := all_pc 10 tab_l_8x0 (all_pc 10 tab_l_8x1 (all_pc 10 tab_l_8x2 (all_pc 10 tab_l_8x3 (all_pc 10 tab_l_8x4 (all_pc 10 tab_l_8x5 (all_pc 10 tab_l_8x6 (all_pc 10 tab_l_8x7 (all_pc 10 tab_l_8x8 (tab_l_8x9)))))))))

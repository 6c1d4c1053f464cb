/-! the tables are as 04 wants them: by decision, 14 -/
theorem tab_l_3x0 : (kc312_3.take 10).all (tchk 312) = true := by decide +kernel
theorem tab_l_3x1 : ((kc312_3.drop 10).take 10).all (tchk 312) = true := by decide +kernel
theorem tab_l_3x2 : (((kc312_3.drop 10).drop 10).take 10).all (tchk 312) = true := by decide +kernel
theorem tab_l_3x3 : ((((kc312_3.drop 10).drop 10).drop 10).take 10).all (tchk 312) = true := by decide +kernel
theorem tab_l_3x4 : (((((kc312_3.drop 10).drop 10).drop 10).drop 10).take 10).all (tchk 312) = true := by decide +kernel
theorem tab_l_3x5 : ((((((kc312_3.drop 10).drop 10).drop 10).drop 10).drop 10).take 10).all (tchk 312) = true := by decide +kernel
theorem tab_l_3x6 : (((((((kc312_3.drop 10).drop 10).drop 10).drop 10).drop 10).drop 10).take 10).all (tchk 312) = true := by decide +kernel
theorem tab_l_3x7 : ((((((((kc312_3.drop 10).drop 10).drop 10).drop 10).drop 10).drop 10).drop 10).take 10).all (tchk 312) = true := by decide +kernel
theorem tab_l_3x8 : (((((((((kc312_3.drop 10).drop 10).drop 10).drop 10).drop 10).drop 10).drop 10).drop 10).take 10).all (tchk 312) = true := by decide +kernel
theorem tab_l_3x9 : ((((((((((kc312_3.drop 10).drop 10).drop 10).drop 10).drop 10).drop 10).drop 10).drop 10).drop 10)).all (tchk 312) = true := by decide +kernel
theorem tab_l_3 : kc312_3.all (tchk 312) = true := all_pc 10 tab_l_3x0 (all_pc 10 tab_l_3x1 (all_pc 10 tab_l_3x2 (all_pc 10 tab_l_3x3 (all_pc 10 tab_l_3x4 (all_pc 10 tab_l_3x5 (all_pc 10 tab_l_3x6 (all_pc 10 tab_l_3x7 (all_pc 10 tab_l_3x8 (tab_l_3x9)))))))))
theorem tab_l_4x0 : (kc312_4.take 10).all (tchk 312) = true := by decide +kernel
theorem tab_l_4x1 : ((kc312_4.drop 10).take 10).all (tchk 312) = true := by decide +kernel
theorem tab_l_4x2 : (((kc312_4.drop 10).drop 10).take 10).all (tchk 312) = true := by decide +kernel
theorem tab_l_4x3 : ((((kc312_4.drop 10).drop 10).drop 10).take 10).all (tchk 312) = true := by decide +kernel
theorem tab_l_4x4 : (((((kc312_4.drop 10).drop 10).drop 10).drop 10).take 10).all (tchk 312) = true := by decide +kernel
theorem tab_l_4x5 : ((((((kc312_4.drop 10).drop 10).drop 10).drop 10).drop 10).take 10).all (tchk 312) = true := by decide +kernel
theorem tab_l_4x6 : (((((((kc312_4.drop 10).drop 10).drop 10).drop 10).drop 10).drop 10).take 10).all (tchk 312) = true := by decide +kernel
theorem tab_l_4x7 : ((((((((kc312_4.drop 10).drop 10).drop 10).drop 10).drop 10).drop 10).drop 10).take 10).all (tchk 312) = true := by decide +kernel
theorem tab_l_4x8 : (((((((((kc312_4.drop 10).drop 10).drop 10).drop 10).drop 10).drop 10).drop 10).drop 10).take 10).all (tchk 312) = true := by decide +kernel
theorem tab_l_4x9 : ((((((((((kc312_4.drop 10).drop 10).drop 10).drop 10).drop 10).drop 10).drop 10).drop 10).drop 10)).all (tchk 312) = true := by decide +kernel
theorem tab_l_4 : kc312_4.all (tchk 312) = true := all_pc 10 tab_l_4x0 (all_pc 10 tab_l_4x1 (all_pc 10 tab_l_4x2 (all_pc 10 tab_l_4x3 (all_pc 10 tab_l_4x4 (all_pc 10 tab_l_4x5 (all_pc 10 tab_l_4x6 (all_pc 10 tab_l_4x7 (all_pc 10 tab_l_4x8 (tab_l_4x9)))))))))
theorem tab_l_5x0 : (kc312_5.take 10).all (tchk 312) = true := by decide +kernel
theorem tab_l_5x1 : ((kc312_5.drop 10).take 10).all (tchk 312) = true := by decide +kernel
theorem tab_l_5x2 : (((kc312_5.drop 10).drop 10).take 10).all (tchk 312) = true := by decide +kernel
theorem tab_l_5x3 : ((((kc312_5.drop 10).drop 10).drop 10).take 10).all (tchk 312) = true := by decide +kernel
theorem tab_l_5x4 : (((((kc312_5.drop 10).drop 10).drop 10).drop 10).take 10).all (tchk 312) = true := by decide +kernel
theorem tab_l_5x5 : ((((((kc312_5.drop 10).drop 10).drop 10).drop 10).drop 10).take 10).all (tchk 312) = true := by decide +kernel
theorem tab_l_5x6 : (((((((kc312_5.drop 10).drop 10).drop 10).drop 10).drop 10).drop 10).take 10).all (tchk 312) = true := by decide +kernel
theorem tab_l_5x7 : ((((((((kc312_5.drop 10).drop 10).drop 10).drop 10).drop 10).drop 10).drop 10).take 10).all (tchk 312) = true := by decide +kernel
theorem tab_l_5x8 : (((((((((kc312_5.drop 10).drop 10).drop 10).drop 10).drop 10).drop 10).drop 10).drop 10).take 10).all (tchk 312) = true := by decide +kernel
theorem tab_l_5x9 : ((((((((((kc312_5.drop 10).drop 10).drop 10).drop 10).drop 10).drop 10).drop 10).drop 10).drop 10)).all (tchk 312) = true := by decide +kernel
theorem tab_l_5 : kc312_5.all (tchk 312) = true := all_pc 10 tab_l_5x0 (all_pc 10 tab_l_5x1 (all_pc 10 tab_l_5x2 (all_pc 10 tab_l_5x3 (all_pc 10 tab_l_5x4 (all_pc 10 tab_l_5x5 (all_pc 10 tab_l_5x6 (all_pc 10 tab_l_5x7 (all_pc 10 tab_l_5x8 (tab_l_5x9)))))))))

/-! the tables are as 04 wants them: by decision, 13 -/
theorem tab_l_0x0 : (kc312_0.take 10).all (tchk 312) = true := by decide +kernel
theorem tab_l_0x1 : ((kc312_0.drop 10).take 10).all (tchk 312) = true := by decide +kernel
theorem tab_l_0x2 : (((kc312_0.drop 10).drop 10).take 10).all (tchk 312) = true := by decide +kernel
theorem tab_l_0x3 : ((((kc312_0.drop 10).drop 10).drop 10).take 10).all (tchk 312) = true := by decide +kernel
theorem tab_l_0x4 : (((((kc312_0.drop 10).drop 10).drop 10).drop 10).take 10).all (tchk 312) = true := by decide +kernel
theorem tab_l_0x5 : ((((((kc312_0.drop 10).drop 10).drop 10).drop 10).drop 10).take 10).all (tchk 312) = true := by decide +kernel
theorem tab_l_0x6 : (((((((kc312_0.drop 10).drop 10).drop 10).drop 10).drop 10).drop 10).take 10).all (tchk 312) = true := by decide +kernel
theorem tab_l_0x7 : ((((((((kc312_0.drop 10).drop 10).drop 10).drop 10).drop 10).drop 10).drop 10).take 10).all (tchk 312) = true := by decide +kernel
theorem tab_l_0x8 : (((((((((kc312_0.drop 10).drop 10).drop 10).drop 10).drop 10).drop 10).drop 10).drop 10).take 10).all (tchk 312) = true := by decide +kernel
theorem tab_l_0x9 : ((((((((((kc312_0.drop 10).drop 10).drop 10).drop 10).drop 10).drop 10).drop 10).drop 10).drop 10)).all (tchk 312) = true := by decide +kernel
theorem tab_l_0 : kc312_0.all (tchk 312) = true := all_pc 10 tab_l_0x0 (all_pc 10 tab_l_0x1 (all_pc 10 tab_l_0x2 (all_pc 10 tab_l_0x3 (all_pc 10 tab_l_0x4 (all_pc 10 tab_l_0x5 (all_pc 10 tab_l_0x6 (all_pc 10 tab_l_0x7 (all_pc 10 tab_l_0x8 (tab_l_0x9)))))))))
theorem tab_l_1x0 : (kc312_1.take 10).all (tchk 312) = true := by decide +kernel
theorem tab_l_1x1 : ((kc312_1.drop 10).take 10).all (tchk 312) = true := by decide +kernel
theorem tab_l_1x2 : (((kc312_1.drop 10).drop 10).take 10).all (tchk 312) = true := by decide +kernel
theorem tab_l_1x3 : ((((kc312_1.drop 10).drop 10).drop 10).take 10).all (tchk 312) = true := by decide +kernel
theorem tab_l_1x4 : (((((kc312_1.drop 10).drop 10).drop 10).drop 10).take 10).all (tchk 312) = true := by decide +kernel
theorem tab_l_1x5 : ((((((kc312_1.drop 10).drop 10).drop 10).drop 10).drop 10).take 10).all (tchk 312) = true := by decide +kernel
theorem tab_l_1x6 : (((((((kc312_1.drop 10).drop 10).drop 10).drop 10).drop 10).drop 10).take 10).all (tchk 312) = true := by decide +kernel
theorem tab_l_1x7 : ((((((((kc312_1.drop 10).drop 10).drop 10).drop 10).drop 10).drop 10).drop 10).take 10).all (tchk 312) = true := by decide +kernel
theorem tab_l_1x8 : (((((((((kc312_1.drop 10).drop 10).drop 10).drop 10).drop 10).drop 10).drop 10).drop 10).take 10).all (tchk 312) = true := by decide +kernel
theorem tab_l_1x9 : ((((((((((kc312_1.drop 10).drop 10).drop 10).drop 10).drop 10).drop 10).drop 10).drop 10).drop 10)).all (tchk 312) = true := by decide +kernel
theorem tab_l_1 : kc312_1.all (tchk 312) = true := all_pc 10 tab_l_1x0 (all_pc 10 tab_l_1x1 (all_pc 10 tab_l_1x2 (all_pc 10 tab_l_1x3 (all_pc 10 tab_l_1x4 (all_pc 10 tab_l_1x5 (all_pc 10 tab_l_1x6 (all_pc 10 tab_l_1x7 (all_pc 10 tab_l_1x8 (tab_l_1x9)))))))))
theorem tab_l_2x0 : (kc312_2.take 10).all (tchk 312) = true := by decide +kernel
theorem tab_l_2x1 : ((kc312_2.drop 10).take 10).all (tchk 312) = true := by decide +kernel
theorem tab_l_2x2 : (((kc312_2.drop 10).drop 10).take 10).all (tchk 312) = true := by decide +kernel
theorem tab_l_2x3 : ((((kc312_2.drop 10).drop 10).drop 10).take 10).all (tchk 312) = true := by decide +kernel
theorem tab_l_2x4 : (((((kc312_2.drop 10).drop 10).drop 10).drop 10).take 10).all (tchk 312) = true := by decide +kernel
theorem tab_l_2x5 : ((((((kc312_2.drop 10).drop 10).drop 10).drop 10).drop 10).take 10).all (tchk 312) = true := by decide +kernel
theorem tab_l_2x6 : (((((((kc312_2.drop 10).drop 10).drop 10).drop 10).drop 10).drop 10).take 10).all (tchk 312) = true := by decide +kernel
theorem tab_l_2x7 : ((((((((kc312_2.drop 10).drop 10).drop 10).drop 10).drop 10).drop 10).drop 10).take 10).all (tchk 312) = true := by decide +kernel
theorem tab_l_2x8 : (((((((((kc312_2.drop 10).drop 10).drop 10).drop 10).drop 10).drop 10).drop 10).drop 10).take 10).all (tchk 312) = true := by decide +kernel
theorem tab_l_2x9 : ((((((((((kc312_2.drop 10).drop 10).drop 10).drop 10).drop 10).drop 10).drop 10).drop 10).drop 10)).all (tchk 312) = true := by decide +kernel
theorem tab_l_2 : kc312_2.all (tchk 312) = true := all_pc 10 tab_l_2x0 (all_pc 10 tab_l_2x1 (all_pc 10 tab_l_2x2 (all_pc 10 tab_l_2x3 (all_pc 10 tab_l_2x4 (all_pc 10 tab_l_2x5 (all_pc 10 tab_l_2x6 (all_pc 10 tab_l_2x7 (all_pc 10 tab_l_2x8 (tab_l_2x9)))))))))

/-! the tables are as 04 wants them: by decision, 4 -/
theorem tab_q_69_0 : ((am_code 69).take 40).all (tchk 69) = true := by decide +kernel
theorem tab_q_69_1 : ((am_code 69).drop 40).all (tchk 69) = true := by decide +kernel
theorem tab_t_69 : (List.range' 69 1).all (fun m => (am_code m).all (tchk m)) = true := all_1 (all_pc 40 tab_q_69_0 (tab_q_69_1))
theorem tab_t_70 : (List.range' 70 1).all (fun m => (am_code m).all (tchk m)) = true := by decide +kernel
theorem tab_q_71_0 : ((am_code 71).take 40).all (tchk 71) = true := by decide +kernel
theorem tab_q_71_1 : ((am_code 71).drop 40).all (tchk 71) = true := by decide +kernel
theorem tab_t_71 : (List.range' 71 1).all (fun m => (am_code m).all (tchk m)) = true := all_1 (all_pc 40 tab_q_71_0 (tab_q_71_1))
theorem tab_q_72_0 : ((am_code 72).take 40).all (tchk 72) = true := by decide +kernel
theorem tab_q_72_1 : (((am_code 72).drop 40).take 40).all (tchk 72) = true := by decide +kernel
theorem tab_q_72_2 : (((am_code 72).drop 40).drop 40).all (tchk 72) = true := by decide +kernel
theorem tab_t_72 : (List.range' 72 1).all (fun m => (am_code m).all (tchk m)) = true := all_1 (all_pc 40 tab_q_72_0 (all_pc 40 tab_q_72_1 (tab_q_72_2)))
theorem tab_t_73 : (List.range' 73 1).all (fun m => (am_code m).all (tchk m)) = true := by decide +kernel
theorem tab_t_74 : (List.range' 74 1).all (fun m => (am_code m).all (tchk m)) = true := by decide +kernel
theorem tab_q_75_0 : ((am_code 75).take 40).all (tchk 75) = true := by decide +kernel
theorem tab_q_75_1 : ((am_code 75).drop 40).all (tchk 75) = true := by decide +kernel
theorem tab_t_75 : (List.range' 75 1).all (fun m => (am_code m).all (tchk m)) = true := all_1 (all_pc 40 tab_q_75_0 (tab_q_75_1))
theorem tab_t_76 : (List.range' 76 3).all (fun m => (am_code m).all (tchk m)) = true := by decide +kernel
theorem tab_t_79 : (List.range' 79 6).all (fun m => (am_code m).all (tchk m)) = true := by decide +kernel
theorem tab_t_85 : (List.range' 85 3).all (fun m => (am_code m).all (tchk m)) = true := by decide +kernel
theorem tab_t_88 : (List.range' 88 3).all (fun m => (am_code m).all (tchk m)) = true := by decide +kernel
theorem tab_t_91 : (List.range' 91 3).all (fun m => (am_code m).all (tchk m)) = true := by decide +kernel
theorem tab_t_94 : (List.range' 94 2).all (fun m => (am_code m).all (tchk m)) = true := by decide +kernel
theorem tab_t_96 : (List.range' 96 2).all (fun m => (am_code m).all (tchk m)) = true := by decide +kernel
theorem tab_t_98 : (List.range' 98 1).all (fun m => (am_code m).all (tchk m)) = true := by decide +kernel
theorem tab_t_99 : (List.range' 99 1).all (fun m => (am_code m).all (tchk m)) = true := by decide +kernel
theorem tab_t_100 : (List.range' 100 1).all (fun m => (am_code m).all (tchk m)) = true := by decide +kernel
theorem tab_t_101 : (List.range' 101 4).all (fun m => (am_code m).all (tchk m)) = true := by decide +kernel
theorem tab_t_105 : (List.range' 105 2).all (fun m => (am_code m).all (tchk m)) = true := by decide +kernel

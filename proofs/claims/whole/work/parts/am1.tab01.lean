/-! the tables are as 04 wants them: by decision, 1 -/
theorem tab_t_0 : (List.range' 0 2).all (fun m => (am_code m).all (tchk m)) = true := by decide +kernel
theorem tab_t_2 : (List.range' 2 1).all (fun m => (am_code m).all (tchk m)) = true := by decide +kernel
theorem tab_t_3 : (List.range' 3 1).all (fun m => (am_code m).all (tchk m)) = true := by decide +kernel
theorem tab_t_4 : (List.range' 4 1).all (fun m => (am_code m).all (tchk m)) = true := by decide +kernel
theorem tab_t_5 : (List.range' 5 1).all (fun m => (am_code m).all (tchk m)) = true := by decide +kernel
theorem tab_q_6_0 : ((am_code 6).take 40).all (tchk 6) = true := by decide +kernel
theorem tab_q_6_1 : ((am_code 6).drop 40).all (tchk 6) = true := by decide +kernel
theorem tab_t_6 : (List.range' 6 1).all (fun m => (am_code m).all (tchk m)) = true := all_1 (all_pc 40 tab_q_6_0 (tab_q_6_1))
theorem tab_t_7 : (List.range' 7 2).all (fun m => (am_code m).all (tchk m)) = true := by decide +kernel
theorem tab_t_9 : (List.range' 9 2).all (fun m => (am_code m).all (tchk m)) = true := by decide +kernel
theorem tab_t_11 : (List.range' 11 1).all (fun m => (am_code m).all (tchk m)) = true := by decide +kernel
theorem tab_t_12 : (List.range' 12 1).all (fun m => (am_code m).all (tchk m)) = true := by decide +kernel
theorem tab_q_13_0 : ((am_code 13).take 40).all (tchk 13) = true := by decide +kernel
theorem tab_q_13_1 : ((am_code 13).drop 40).all (tchk 13) = true := by decide +kernel
theorem tab_t_13 : (List.range' 13 1).all (fun m => (am_code m).all (tchk m)) = true := all_1 (all_pc 40 tab_q_13_0 (tab_q_13_1))
theorem tab_t_14 : (List.range' 14 1).all (fun m => (am_code m).all (tchk m)) = true := by decide +kernel
theorem tab_t_15 : (List.range' 15 1).all (fun m => (am_code m).all (tchk m)) = true := by decide +kernel
theorem tab_t_16 : (List.range' 16 2).all (fun m => (am_code m).all (tchk m)) = true := by decide +kernel
theorem tab_t_18 : (List.range' 18 2).all (fun m => (am_code m).all (tchk m)) = true := by decide +kernel
theorem tab_t_20 : (List.range' 20 3).all (fun m => (am_code m).all (tchk m)) = true := by decide +kernel
theorem tab_t_23 : (List.range' 23 2).all (fun m => (am_code m).all (tchk m)) = true := by decide +kernel
theorem tab_q_25_0 : ((am_code 25).take 40).all (tchk 25) = true := by decide +kernel
theorem tab_q_25_1 : (((am_code 25).drop 40).take 40).all (tchk 25) = true := by decide +kernel
theorem tab_q_25_2 : ((((am_code 25).drop 40).drop 40).take 40).all (tchk 25) = true := by decide +kernel
theorem tab_q_25_3 : (((((am_code 25).drop 40).drop 40).drop 40).take 40).all (tchk 25) = true := by decide +kernel
theorem tab_q_25_4 : (((((am_code 25).drop 40).drop 40).drop 40).drop 40).all (tchk 25) = true := by decide +kernel
theorem tab_t_25 : (List.range' 25 1).all (fun m => (am_code m).all (tchk m)) = true := all_1 (all_pc 40 tab_q_25_0 (all_pc 40 tab_q_25_1 (all_pc 40 tab_q_25_2 (all_pc 40 tab_q_25_3 (tab_q_25_4)))))
theorem tab_t_26 : (List.range' 26 1).all (fun m => (am_code m).all (tchk m)) = true := by decide +kernel

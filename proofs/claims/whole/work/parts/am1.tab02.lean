/-! the tables are as 04 wants them: by decision, 2 -/
theorem tab_t_27 : (List.range' 27 3).all (fun m => (am_code m).all (tchk m)) = true := by decide +kernel
theorem tab_t_30 : (List.range' 30 2).all (fun m => (am_code m).all (tchk m)) = true := by decide +kernel
theorem tab_t_32 : (List.range' 32 2).all (fun m => (am_code m).all (tchk m)) = true := by decide +kernel
theorem tab_t_34 : (List.range' 34 1).all (fun m => (am_code m).all (tchk m)) = true := by decide +kernel
theorem tab_q_35_0 : ((am_code 35).take 40).all (tchk 35) = true := by decide +kernel
theorem tab_q_35_1 : ((am_code 35).drop 40).all (tchk 35) = true := by decide +kernel
theorem tab_t_35 : (List.range' 35 1).all (fun m => (am_code m).all (tchk m)) = true := all_1 (all_pc 40 tab_q_35_0 (tab_q_35_1))
theorem tab_t_36 : (List.range' 36 1).all (fun m => (am_code m).all (tchk m)) = true := by decide +kernel
theorem tab_t_37 : (List.range' 37 1).all (fun m => (am_code m).all (tchk m)) = true := by decide +kernel
theorem tab_t_38 : (List.range' 38 1).all (fun m => (am_code m).all (tchk m)) = true := by decide +kernel
theorem tab_t_39 : (List.range' 39 1).all (fun m => (am_code m).all (tchk m)) = true := by decide +kernel
theorem tab_t_40 : (List.range' 40 1).all (fun m => (am_code m).all (tchk m)) = true := by decide +kernel
theorem tab_t_41 : (List.range' 41 1).all (fun m => (am_code m).all (tchk m)) = true := by decide +kernel
theorem tab_t_42 : (List.range' 42 2).all (fun m => (am_code m).all (tchk m)) = true := by decide +kernel
theorem tab_t_44 : (List.range' 44 1).all (fun m => (am_code m).all (tchk m)) = true := by decide +kernel
theorem tab_q_45_0 : ((am_code 45).take 40).all (tchk 45) = true := by decide +kernel
theorem tab_q_45_1 : ((am_code 45).drop 40).all (tchk 45) = true := by decide +kernel
theorem tab_t_45 : (List.range' 45 1).all (fun m => (am_code m).all (tchk m)) = true := all_1 (all_pc 40 tab_q_45_0 (tab_q_45_1))
theorem tab_t_46 : (List.range' 46 1).all (fun m => (am_code m).all (tchk m)) = true := by decide +kernel
theorem tab_q_47_0 : ((am_code 47).take 40).all (tchk 47) = true := by decide +kernel
theorem tab_q_47_1 : ((am_code 47).drop 40).all (tchk 47) = true := by decide +kernel
theorem tab_t_47 : (List.range' 47 1).all (fun m => (am_code m).all (tchk m)) = true := all_1 (all_pc 40 tab_q_47_0 (tab_q_47_1))
theorem tab_t_48 : (List.range' 48 1).all (fun m => (am_code m).all (tchk m)) = true := by decide +kernel
theorem tab_q_49_0 : ((am_code 49).take 40).all (tchk 49) = true := by decide +kernel
theorem tab_q_49_1 : ((am_code 49).drop 40).all (tchk 49) = true := by decide +kernel
theorem tab_t_49 : (List.range' 49 1).all (fun m => (am_code m).all (tchk m)) = true := all_1 (all_pc 40 tab_q_49_0 (tab_q_49_1))
theorem tab_t_50 : (List.range' 50 1).all (fun m => (am_code m).all (tchk m)) = true := by decide +kernel
theorem tab_q_51_0 : ((am_code 51).take 40).all (tchk 51) = true := by decide +kernel
theorem tab_q_51_1 : (((am_code 51).drop 40).take 40).all (tchk 51) = true := by decide +kernel

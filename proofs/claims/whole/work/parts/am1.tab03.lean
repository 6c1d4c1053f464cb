/-! the tables are as 04 wants them: by decision, 3 -/
theorem tab_q_51_2 : (((am_code 51).drop 40).drop 40).all (tchk 51) = true := by decide +kernel
theorem tab_t_51 : (List.range' 51 1).all (fun m => (am_code m).all (tchk m)) = true := all_1 (all_pc 40 tab_q_51_0 (all_pc 40 tab_q_51_1 (tab_q_51_2)))
theorem tab_t_52 : (List.range' 52 1).all (fun m => (am_code m).all (tchk m)) = true := by decide +kernel
theorem tab_q_53_0 : ((am_code 53).take 40).all (tchk 53) = true := by decide +kernel
theorem tab_q_53_1 : (((am_code 53).drop 40).take 40).all (tchk 53) = true := by decide +kernel
theorem tab_q_53_2 : (((am_code 53).drop 40).drop 40).all (tchk 53) = true := by decide +kernel
theorem tab_t_53 : (List.range' 53 1).all (fun m => (am_code m).all (tchk m)) = true := all_1 (all_pc 40 tab_q_53_0 (all_pc 40 tab_q_53_1 (tab_q_53_2)))
theorem tab_t_54 : (List.range' 54 2).all (fun m => (am_code m).all (tchk m)) = true := by decide +kernel
theorem tab_t_56 : (List.range' 56 1).all (fun m => (am_code m).all (tchk m)) = true := by decide +kernel
theorem tab_q_57_0 : ((am_code 57).take 40).all (tchk 57) = true := by decide +kernel
theorem tab_q_57_1 : ((am_code 57).drop 40).all (tchk 57) = true := by decide +kernel
theorem tab_t_57 : (List.range' 57 1).all (fun m => (am_code m).all (tchk m)) = true := all_1 (all_pc 40 tab_q_57_0 (tab_q_57_1))
theorem tab_t_58 : (List.range' 58 1).all (fun m => (am_code m).all (tchk m)) = true := by decide +kernel
theorem tab_t_59 : (List.range' 59 1).all (fun m => (am_code m).all (tchk m)) = true := by decide +kernel
theorem tab_t_60 : (List.range' 60 1).all (fun m => (am_code m).all (tchk m)) = true := by decide +kernel
theorem tab_t_61 : (List.range' 61 1).all (fun m => (am_code m).all (tchk m)) = true := by decide +kernel
theorem tab_q_62_0 : ((am_code 62).take 40).all (tchk 62) = true := by decide +kernel
theorem tab_q_62_1 : ((am_code 62).drop 40).all (tchk 62) = true := by decide +kernel
theorem tab_t_62 : (List.range' 62 1).all (fun m => (am_code m).all (tchk m)) = true := all_1 (all_pc 40 tab_q_62_0 (tab_q_62_1))
theorem tab_q_63_0 : ((am_code 63).take 40).all (tchk 63) = true := by decide +kernel
theorem tab_q_63_1 : ((am_code 63).drop 40).all (tchk 63) = true := by decide +kernel
theorem tab_t_63 : (List.range' 63 1).all (fun m => (am_code m).all (tchk m)) = true := all_1 (all_pc 40 tab_q_63_0 (tab_q_63_1))
theorem tab_q_64_0 : ((am_code 64).take 40).all (tchk 64) = true := by decide +kernel
theorem tab_q_64_1 : (((am_code 64).drop 40).take 40).all (tchk 64) = true := by decide +kernel
theorem tab_q_64_2 : (((am_code 64).drop 40).drop 40).all (tchk 64) = true := by decide +kernel
theorem tab_t_64 : (List.range' 64 1).all (fun m => (am_code m).all (tchk m)) = true := all_1 (all_pc 40 tab_q_64_0 (all_pc 40 tab_q_64_1 (tab_q_64_2)))
theorem tab_t_65 : (List.range' 65 2).all (fun m => (am_code m).all (tchk m)) = true := by decide +kernel
theorem tab_t_67 : (List.range' 67 2).all (fun m => (am_code m).all (tchk m)) = true := by decide +kernel

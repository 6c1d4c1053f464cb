/-! the tables are as 04 wants them: by decision, 8 -/
theorem tab_t_187 : (List.range' 187 1).all (fun m => (am_code m).all (tchk m)) = true := by decide +kernel
theorem tab_t_188 : (List.range' 188 1).all (fun m => (am_code m).all (tchk m)) = true := by decide +kernel
theorem tab_t_189 : (List.range' 189 3).all (fun m => (am_code m).all (tchk m)) = true := by decide +kernel
theorem tab_q_192_0 : ((am_code 192).take 40).all (tchk 192) = true := by decide +kernel
theorem tab_q_192_1 : (((am_code 192).drop 40).take 40).all (tchk 192) = true := by decide +kernel
theorem tab_q_192_2 : ((((am_code 192).drop 40).drop 40).take 40).all (tchk 192) = true := by decide +kernel
theorem tab_q_192_3 : ((((am_code 192).drop 40).drop 40).drop 40).all (tchk 192) = true := by decide +kernel
theorem tab_t_192 : (List.range' 192 1).all (fun m => (am_code m).all (tchk m)) = true := all_1 (all_pc 40 tab_q_192_0 (all_pc 40 tab_q_192_1 (all_pc 40 tab_q_192_2 (tab_q_192_3))))
theorem tab_t_193 : (List.range' 193 1).all (fun m => (am_code m).all (tchk m)) = true := by decide +kernel
theorem tab_t_194 : (List.range' 194 1).all (fun m => (am_code m).all (tchk m)) = true := by decide +kernel
theorem tab_t_195 : (List.range' 195 2).all (fun m => (am_code m).all (tchk m)) = true := by decide +kernel
theorem tab_t_197 : (List.range' 197 2).all (fun m => (am_code m).all (tchk m)) = true := by decide +kernel
theorem tab_q_199_0 : ((am_code 199).take 40).all (tchk 199) = true := by decide +kernel
theorem tab_q_199_1 : ((am_code 199).drop 40).all (tchk 199) = true := by decide +kernel
theorem tab_t_199 : (List.range' 199 1).all (fun m => (am_code m).all (tchk m)) = true := all_1 (all_pc 40 tab_q_199_0 (tab_q_199_1))
theorem tab_t_200 : (List.range' 200 2).all (fun m => (am_code m).all (tchk m)) = true := by decide +kernel
theorem tab_t_202 : (List.range' 202 2).all (fun m => (am_code m).all (tchk m)) = true := by decide +kernel
theorem tab_t_204 : (List.range' 204 1).all (fun m => (am_code m).all (tchk m)) = true := by decide +kernel
theorem tab_t_205 : (List.range' 205 1).all (fun m => (am_code m).all (tchk m)) = true := by decide +kernel
theorem tab_q_206_0 : ((am_code 206).take 40).all (tchk 206) = true := by decide +kernel
theorem tab_q_206_1 : ((am_code 206).drop 40).all (tchk 206) = true := by decide +kernel
theorem tab_t_206 : (List.range' 206 1).all (fun m => (am_code m).all (tchk m)) = true := all_1 (all_pc 40 tab_q_206_0 (tab_q_206_1))
theorem tab_q_207_0 : ((am_code 207).take 40).all (tchk 207) = true := by decide +kernel
theorem tab_q_207_1 : ((am_code 207).drop 40).all (tchk 207) = true := by decide +kernel
theorem tab_t_207 : (List.range' 207 1).all (fun m => (am_code m).all (tchk m)) = true := all_1 (all_pc 40 tab_q_207_0 (tab_q_207_1))
theorem tab_q_208_0 : ((am_code 208).take 40).all (tchk 208) = true := by decide +kernel
theorem tab_q_208_1 : ((am_code 208).drop 40).all (tchk 208) = true := by decide +kernel
theorem tab_t_208 : (List.range' 208 1).all (fun m => (am_code m).all (tchk m)) = true := all_1 (all_pc 40 tab_q_208_0 (tab_q_208_1))
theorem tab_q_209_0 : ((am_code 209).take 40).all (tchk 209) = true := by decide +kernel

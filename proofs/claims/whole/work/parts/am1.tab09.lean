/-! the tables are as 04 wants them: by decision, 9 -/
theorem tab_q_209_1 : (((am_code 209).drop 40).take 40).all (tchk 209) = true := by decide +kernel
theorem tab_q_209_2 : (((am_code 209).drop 40).drop 40).all (tchk 209) = true := by decide +kernel
theorem tab_t_209 : (List.range' 209 1).all (fun m => (am_code m).all (tchk m)) = true := all_1 (all_pc 40 tab_q_209_0 (all_pc 40 tab_q_209_1 (tab_q_209_2)))
theorem tab_q_210_0 : ((am_code 210).take 40).all (tchk 210) = true := by decide +kernel
theorem tab_q_210_1 : ((am_code 210).drop 40).all (tchk 210) = true := by decide +kernel
theorem tab_t_210 : (List.range' 210 1).all (fun m => (am_code m).all (tchk m)) = true := all_1 (all_pc 40 tab_q_210_0 (tab_q_210_1))
theorem tab_q_211_0 : ((am_code 211).take 40).all (tchk 211) = true := by decide +kernel
theorem tab_q_211_1 : ((am_code 211).drop 40).all (tchk 211) = true := by decide +kernel
theorem tab_t_211 : (List.range' 211 1).all (fun m => (am_code m).all (tchk m)) = true := all_1 (all_pc 40 tab_q_211_0 (tab_q_211_1))
theorem tab_q_212_0 : ((am_code 212).take 40).all (tchk 212) = true := by decide +kernel
theorem tab_q_212_1 : ((am_code 212).drop 40).all (tchk 212) = true := by decide +kernel
theorem tab_t_212 : (List.range' 212 1).all (fun m => (am_code m).all (tchk m)) = true := all_1 (all_pc 40 tab_q_212_0 (tab_q_212_1))
theorem tab_t_213 : (List.range' 213 2).all (fun m => (am_code m).all (tchk m)) = true := by decide +kernel
theorem tab_q_215_0 : ((am_code 215).take 40).all (tchk 215) = true := by decide +kernel
theorem tab_q_215_1 : ((am_code 215).drop 40).all (tchk 215) = true := by decide +kernel
theorem tab_t_215 : (List.range' 215 1).all (fun m => (am_code m).all (tchk m)) = true := all_1 (all_pc 40 tab_q_215_0 (tab_q_215_1))
theorem tab_t_216 : (List.range' 216 1).all (fun m => (am_code m).all (tchk m)) = true := by decide +kernel
theorem tab_t_217 : (List.range' 217 1).all (fun m => (am_code m).all (tchk m)) = true := by decide +kernel
theorem tab_q_218_0 : ((am_code 218).take 40).all (tchk 218) = true := by decide +kernel
theorem tab_q_218_1 : ((am_code 218).drop 40).all (tchk 218) = true := by decide +kernel
theorem tab_t_218 : (List.range' 218 1).all (fun m => (am_code m).all (tchk m)) = true := all_1 (all_pc 40 tab_q_218_0 (tab_q_218_1))
theorem tab_q_219_0 : ((am_code 219).take 40).all (tchk 219) = true := by decide +kernel
theorem tab_q_219_1 : ((am_code 219).drop 40).all (tchk 219) = true := by decide +kernel
theorem tab_t_219 : (List.range' 219 1).all (fun m => (am_code m).all (tchk m)) = true := all_1 (all_pc 40 tab_q_219_0 (tab_q_219_1))
theorem tab_t_220 : (List.range' 220 1).all (fun m => (am_code m).all (tchk m)) = true := by decide +kernel
theorem tab_t_221 : (List.range' 221 5).all (fun m => (am_code m).all (tchk m)) = true := by decide +kernel
theorem tab_t_226 : (List.range' 226 5).all (fun m => (am_code m).all (tchk m)) = true := by decide +kernel
theorem tab_t_231 : (List.range' 231 2).all (fun m => (am_code m).all (tchk m)) = true := by decide +kernel
theorem tab_t_233 : (List.range' 233 2).all (fun m => (am_code m).all (tchk m)) = true := by decide +kernel
theorem tab_t_235 : (List.range' 235 2).all (fun m => (am_code m).all (tchk m)) = true := by decide +kernel
theorem tab_t_237 : (List.range' 237 2).all (fun m => (am_code m).all (tchk m)) = true := by decide +kernel

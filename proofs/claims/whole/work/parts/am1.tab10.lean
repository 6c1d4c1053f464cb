/-! the tables are as 04 wants them: by decision, 10 -/
theorem tab_t_239 : (List.range' 239 2).all (fun m => (am_code m).all (tchk m)) = true := by decide +kernel
theorem tab_t_241 : (List.range' 241 2).all (fun m => (am_code m).all (tchk m)) = true := by decide +kernel
theorem tab_t_243 : (List.range' 243 2).all (fun m => (am_code m).all (tchk m)) = true := by decide +kernel
theorem tab_t_245 : (List.range' 245 2).all (fun m => (am_code m).all (tchk m)) = true := by decide +kernel
theorem tab_t_247 : (List.range' 247 2).all (fun m => (am_code m).all (tchk m)) = true := by decide +kernel
theorem tab_t_249 : (List.range' 249 2).all (fun m => (am_code m).all (tchk m)) = true := by decide +kernel
theorem tab_t_251 : (List.range' 251 1).all (fun m => (am_code m).all (tchk m)) = true := by decide +kernel
theorem tab_t_252 : (List.range' 252 1).all (fun m => (am_code m).all (tchk m)) = true := by decide +kernel
theorem tab_t_253 : (List.range' 253 1).all (fun m => (am_code m).all (tchk m)) = true := by decide +kernel
theorem tab_t_254 : (List.range' 254 2).all (fun m => (am_code m).all (tchk m)) = true := by decide +kernel
theorem tab_t_256 : (List.range' 256 1).all (fun m => (am_code m).all (tchk m)) = true := by decide +kernel
theorem tab_t_257 : (List.range' 257 1).all (fun m => (am_code m).all (tchk m)) = true := by decide +kernel
theorem tab_t_258 : (List.range' 258 1).all (fun m => (am_code m).all (tchk m)) = true := by decide +kernel
theorem tab_t_259 : (List.range' 259 1).all (fun m => (am_code m).all (tchk m)) = true := by decide +kernel
theorem tab_t_260 : (List.range' 260 2).all (fun m => (am_code m).all (tchk m)) = true := by decide +kernel
theorem tab_t_262 : (List.range' 262 1).all (fun m => (am_code m).all (tchk m)) = true := by decide +kernel
theorem tab_q_263_0 : ((am_code 263).take 40).all (tchk 263) = true := by decide +kernel
theorem tab_q_263_1 : ((am_code 263).drop 40).all (tchk 263) = true := by decide +kernel
theorem tab_t_263 : (List.range' 263 1).all (fun m => (am_code m).all (tchk m)) = true := all_1 (all_pc 40 tab_q_263_0 (tab_q_263_1))
theorem tab_t_264 : (List.range' 264 1).all (fun m => (am_code m).all (tchk m)) = true := by decide +kernel
theorem tab_q_265_0 : ((am_code 265).take 40).all (tchk 265) = true := by decide +kernel
theorem tab_q_265_1 : ((am_code 265).drop 40).all (tchk 265) = true := by decide +kernel
theorem tab_t_265 : (List.range' 265 1).all (fun m => (am_code m).all (tchk m)) = true := all_1 (all_pc 40 tab_q_265_0 (tab_q_265_1))
theorem tab_t_266 : (List.range' 266 1).all (fun m => (am_code m).all (tchk m)) = true := by decide +kernel
theorem tab_t_267 : (List.range' 267 1).all (fun m => (am_code m).all (tchk m)) = true := by decide +kernel
theorem tab_q_268_0 : ((am_code 268).take 40).all (tchk 268) = true := by decide +kernel
theorem tab_q_268_1 : ((am_code 268).drop 40).all (tchk 268) = true := by decide +kernel
theorem tab_t_268 : (List.range' 268 1).all (fun m => (am_code m).all (tchk m)) = true := all_1 (all_pc 40 tab_q_268_0 (tab_q_268_1))

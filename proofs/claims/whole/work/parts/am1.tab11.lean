/-! the tables are as 04 wants them: by decision, 11 -/
theorem tab_q_269_0 : ((am_code 269).take 40).all (tchk 269) = true := by decide +kernel
theorem tab_q_269_1 : ((am_code 269).drop 40).all (tchk 269) = true := by decide +kernel
theorem tab_t_269 : (List.range' 269 1).all (fun m => (am_code m).all (tchk m)) = true := all_1 (all_pc 40 tab_q_269_0 (tab_q_269_1))
theorem tab_t_270 : (List.range' 270 2).all (fun m => (am_code m).all (tchk m)) = true := by decide +kernel
theorem tab_q_272_0 : ((am_code 272).take 40).all (tchk 272) = true := by decide +kernel
theorem tab_q_272_1 : ((am_code 272).drop 40).all (tchk 272) = true := by decide +kernel
theorem tab_t_272 : (List.range' 272 1).all (fun m => (am_code m).all (tchk m)) = true := all_1 (all_pc 40 tab_q_272_0 (tab_q_272_1))
theorem tab_t_273 : (List.range' 273 2).all (fun m => (am_code m).all (tchk m)) = true := by decide +kernel
theorem tab_t_275 : (List.range' 275 1).all (fun m => (am_code m).all (tchk m)) = true := by decide +kernel
theorem tab_q_276_0 : ((am_code 276).take 40).all (tchk 276) = true := by decide +kernel
theorem tab_q_276_1 : ((am_code 276).drop 40).all (tchk 276) = true := by decide +kernel
theorem tab_t_276 : (List.range' 276 1).all (fun m => (am_code m).all (tchk m)) = true := all_1 (all_pc 40 tab_q_276_0 (tab_q_276_1))
theorem tab_t_277 : (List.range' 277 1).all (fun m => (am_code m).all (tchk m)) = true := by decide +kernel
theorem tab_t_278 : (List.range' 278 2).all (fun m => (am_code m).all (tchk m)) = true := by decide +kernel
theorem tab_q_280_0 : ((am_code 280).take 40).all (tchk 280) = true := by decide +kernel
theorem tab_q_280_1 : ((am_code 280).drop 40).all (tchk 280) = true := by decide +kernel
theorem tab_t_280 : (List.range' 280 1).all (fun m => (am_code m).all (tchk m)) = true := all_1 (all_pc 40 tab_q_280_0 (tab_q_280_1))
theorem tab_t_281 : (List.range' 281 2).all (fun m => (am_code m).all (tchk m)) = true := by decide +kernel
theorem tab_t_283 : (List.range' 283 1).all (fun m => (am_code m).all (tchk m)) = true := by decide +kernel
theorem tab_t_284 : (List.range' 284 2).all (fun m => (am_code m).all (tchk m)) = true := by decide +kernel
theorem tab_t_286 : (List.range' 286 2).all (fun m => (am_code m).all (tchk m)) = true := by decide +kernel
theorem tab_t_288 : (List.range' 288 3).all (fun m => (am_code m).all (tchk m)) = true := by decide +kernel
theorem tab_t_291 : (List.range' 291 2).all (fun m => (am_code m).all (tchk m)) = true := by decide +kernel
theorem tab_t_293 : (List.range' 293 2).all (fun m => (am_code m).all (tchk m)) = true := by decide +kernel
theorem tab_t_295 : (List.range' 295 2).all (fun m => (am_code m).all (tchk m)) = true := by decide +kernel
theorem tab_t_297 : (List.range' 297 3).all (fun m => (am_code m).all (tchk m)) = true := by decide +kernel
theorem tab_t_300 : (List.range' 300 3).all (fun m => (am_code m).all (tchk m)) = true := by decide +kernel
theorem tab_t_303 : (List.range' 303 2).all (fun m => (am_code m).all (tchk m)) = true := by decide +kernel

/-! the tables, instruction by instruction -/
theorem tab_t_229 : (List.range' 229 11).all (fun m => (am_code m).all (tchk m)) = true := by decide +kernel
theorem tab_t_240 : (List.range' 240 9).all (fun m => (am_code m).all (tchk m)) = true := by decide +kernel
theorem tab_t_249 : (List.range' 249 8).all (fun m => (am_code m).all (tchk m)) = true := by decide +kernel
theorem tab_t_257 : (List.range' 257 7).all (fun m => (am_code m).all (tchk m)) = true := by decide +kernel
theorem tab_t_264 : (List.range' 264 5).all (fun m => (am_code m).all (tchk m)) = true := by decide +kernel
theorem tab_t_269 : (List.range' 269 6).all (fun m => (am_code m).all (tchk m)) = true := by decide +kernel
theorem tab_t_275 : (List.range' 275 5).all (fun m => (am_code m).all (tchk m)) = true := by decide +kernel
theorem tab_t_280 : (List.range' 280 7).all (fun m => (am_code m).all (tchk m)) = true := by decide +kernel
theorem tab_t_287 : (List.range' 287 11).all (fun m => (am_code m).all (tchk m)) = true := by decide +kernel
theorem tab_t_298 : (List.range' 298 11).all (fun m => (am_code m).all (tchk m)) = true := by decide +kernel
theorem tab_t_309 : (List.range' 309 3).all (fun m => (am_code m).all (tchk m)) = true := by decide +kernel

/-! the tables are as 04 wants them: by decision, 12 -/
theorem tab_t_305 : (List.range' 305 3).all (fun m => (am_code m).all (tchk m)) = true := by decide +kernel
theorem tab_t_308 : (List.range' 308 1).all (fun m => (am_code m).all (tchk m)) = true := by decide +kernel
theorem tab_t_309 : (List.range' 309 2).all (fun m => (am_code m).all (tchk m)) = true := by decide +kernel
theorem tab_t_311 : (List.range' 311 1).all (fun m => (am_code m).all (tchk m)) = true := by decide +kernel

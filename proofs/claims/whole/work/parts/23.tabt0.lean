/-! the tables, instruction by instruction -/
theorem tab_t_0 : (List.range' 0 7).all (fun m => (am_code m).all (tchk m)) = true := by decide +kernel
theorem tab_t_7 : (List.range' 7 7).all (fun m => (am_code m).all (tchk m)) = true := by decide +kernel
theorem tab_t_14 : (List.range' 14 8).all (fun m => (am_code m).all (tchk m)) = true := by decide +kernel
theorem tab_t_22 : (List.range' 22 4).all (fun m => (am_code m).all (tchk m)) = true := by decide +kernel
theorem tab_t_26 : (List.range' 26 9).all (fun m => (am_code m).all (tchk m)) = true := by decide +kernel
theorem tab_t_35 : (List.range' 35 6).all (fun m => (am_code m).all (tchk m)) = true := by decide +kernel
theorem tab_t_41 : (List.range' 41 6).all (fun m => (am_code m).all (tchk m)) = true := by decide +kernel
theorem tab_t_47 : (List.range' 47 4).all (fun m => (am_code m).all (tchk m)) = true := by decide +kernel
theorem tab_t_51 : (List.range' 51 3).all (fun m => (am_code m).all (tchk m)) = true := by decide +kernel
theorem tab_t_54 : (List.range' 54 5).all (fun m => (am_code m).all (tchk m)) = true := by decide +kernel
theorem tab_t_59 : (List.range' 59 4).all (fun m => (am_code m).all (tchk m)) = true := by decide +kernel
theorem tab_t_63 : (List.range' 63 2).all (fun m => (am_code m).all (tchk m)) = true := by decide +kernel

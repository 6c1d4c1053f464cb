/-! the tables, instruction by instruction -/
theorem tab_t_157 : (List.range' 157 5).all (fun m => (am_code m).all (tchk m)) = true := by decide +kernel
theorem tab_t_162 : (List.range' 162 9).all (fun m => (am_code m).all (tchk m)) = true := by decide +kernel
theorem tab_t_171 : (List.range' 171 5).all (fun m => (am_code m).all (tchk m)) = true := by decide +kernel
theorem tab_t_176 : (List.range' 176 5).all (fun m => (am_code m).all (tchk m)) = true := by decide +kernel
theorem tab_t_181 : (List.range' 181 5).all (fun m => (am_code m).all (tchk m)) = true := by decide +kernel
theorem tab_t_186 : (List.range' 186 7).all (fun m => (am_code m).all (tchk m)) = true := by decide +kernel
theorem tab_t_193 : (List.range' 193 7).all (fun m => (am_code m).all (tchk m)) = true := by decide +kernel
theorem tab_t_200 : (List.range' 200 7).all (fun m => (am_code m).all (tchk m)) = true := by decide +kernel
theorem tab_t_207 : (List.range' 207 3).all (fun m => (am_code m).all (tchk m)) = true := by decide +kernel
theorem tab_t_210 : (List.range' 210 3).all (fun m => (am_code m).all (tchk m)) = true := by decide +kernel
theorem tab_t_213 : (List.range' 213 6).all (fun m => (am_code m).all (tchk m)) = true := by decide +kernel
theorem tab_t_219 : (List.range' 219 10).all (fun m => (am_code m).all (tchk m)) = true := by decide +kernel

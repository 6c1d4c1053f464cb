/-! the tables are as 04 wants them: by decision, 7 -/
theorem tab_t_166 : (List.range' 166 2).all (fun m => (am_code m).all (tchk m)) = true := by decide +kernel
theorem tab_q_168_0 : ((am_code 168).take 40).all (tchk 168) = true := by decide +kernel
theorem tab_q_168_1 : ((am_code 168).drop 40).all (tchk 168) = true := by decide +kernel
theorem tab_t_168 : (List.range' 168 1).all (fun m => (am_code m).all (tchk m)) = true := all_1 (all_pc 40 tab_q_168_0 (tab_q_168_1))
theorem tab_t_169 : (List.range' 169 2).all (fun m => (am_code m).all (tchk m)) = true := by decide +kernel
theorem tab_t_171 : (List.range' 171 1).all (fun m => (am_code m).all (tchk m)) = true := by decide +kernel
theorem tab_t_172 : (List.range' 172 1).all (fun m => (am_code m).all (tchk m)) = true := by decide +kernel
theorem tab_t_173 : (List.range' 173 1).all (fun m => (am_code m).all (tchk m)) = true := by decide +kernel
theorem tab_q_174_0 : ((am_code 174).take 40).all (tchk 174) = true := by decide +kernel
theorem tab_q_174_1 : ((am_code 174).drop 40).all (tchk 174) = true := by decide +kernel
theorem tab_t_174 : (List.range' 174 1).all (fun m => (am_code m).all (tchk m)) = true := all_1 (all_pc 40 tab_q_174_0 (tab_q_174_1))
theorem tab_q_175_0 : ((am_code 175).take 40).all (tchk 175) = true := by decide +kernel
theorem tab_q_175_1 : ((am_code 175).drop 40).all (tchk 175) = true := by decide +kernel
theorem tab_t_175 : (List.range' 175 1).all (fun m => (am_code m).all (tchk m)) = true := all_1 (all_pc 40 tab_q_175_0 (tab_q_175_1))
theorem tab_t_176 : (List.range' 176 1).all (fun m => (am_code m).all (tchk m)) = true := by decide +kernel
theorem tab_t_177 : (List.range' 177 1).all (fun m => (am_code m).all (tchk m)) = true := by decide +kernel
theorem tab_q_178_0 : ((am_code 178).take 40).all (tchk 178) = true := by decide +kernel
theorem tab_q_178_1 : ((am_code 178).drop 40).all (tchk 178) = true := by decide +kernel
theorem tab_t_178 : (List.range' 178 1).all (fun m => (am_code m).all (tchk m)) = true := all_1 (all_pc 40 tab_q_178_0 (tab_q_178_1))
theorem tab_t_179 : (List.range' 179 1).all (fun m => (am_code m).all (tchk m)) = true := by decide +kernel
theorem tab_q_180_0 : ((am_code 180).take 40).all (tchk 180) = true := by decide +kernel
theorem tab_q_180_1 : ((am_code 180).drop 40).all (tchk 180) = true := by decide +kernel
theorem tab_t_180 : (List.range' 180 1).all (fun m => (am_code m).all (tchk m)) = true := all_1 (all_pc 40 tab_q_180_0 (tab_q_180_1))
theorem tab_q_181_0 : ((am_code 181).take 40).all (tchk 181) = true := by decide +kernel
theorem tab_q_181_1 : (((am_code 181).drop 40).take 40).all (tchk 181) = true := by decide +kernel
theorem tab_q_181_2 : (((am_code 181).drop 40).drop 40).all (tchk 181) = true := by decide +kernel
theorem tab_t_181 : (List.range' 181 1).all (fun m => (am_code m).all (tchk m)) = true := all_1 (all_pc 40 tab_q_181_0 (all_pc 40 tab_q_181_1 (tab_q_181_2)))
theorem tab_t_182 : (List.range' 182 3).all (fun m => (am_code m).all (tchk m)) = true := by decide +kernel
theorem tab_q_185_0 : ((am_code 185).take 40).all (tchk 185) = true := by decide +kernel
theorem tab_q_185_1 : ((am_code 185).drop 40).all (tchk 185) = true := by decide +kernel
theorem tab_t_185 : (List.range' 185 1).all (fun m => (am_code m).all (tchk m)) = true := all_1 (all_pc 40 tab_q_185_0 (tab_q_185_1))
theorem tab_q_186_0 : ((am_code 186).take 40).all (tchk 186) = true := by decide +kernel
theorem tab_q_186_1 : ((am_code 186).drop 40).all (tchk 186) = true := by decide +kernel
theorem tab_t_186 : (List.range' 186 1).all (fun m => (am_code m).all (tchk m)) = true := all_1 (all_pc 40 tab_q_186_0 (tab_q_186_1))

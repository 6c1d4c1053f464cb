/-! the tables are as 04 wants them: by decision, 6 -/
theorem tab_q_143_0 : ((am_code 143).take 40).all (tchk 143) = true := by decide +kernel
theorem tab_q_143_1 : ((am_code 143).drop 40).all (tchk 143) = true := by decide +kernel
theorem tab_t_143 : (List.range' 143 1).all (fun m => (am_code m).all (tchk m)) = true := all_1 (all_pc 40 tab_q_143_0 (tab_q_143_1))
theorem tab_t_144 : (List.range' 144 2).all (fun m => (am_code m).all (tchk m)) = true := by decide +kernel
theorem tab_q_146_0 : ((am_code 146).take 40).all (tchk 146) = true := by decide +kernel
theorem tab_q_146_1 : (((am_code 146).drop 40).take 40).all (tchk 146) = true := by decide +kernel
theorem tab_q_146_2 : ((((am_code 146).drop 40).drop 40).take 40).all (tchk 146) = true := by decide +kernel
theorem tab_q_146_3 : (((((am_code 146).drop 40).drop 40).drop 40).take 40).all (tchk 146) = true := by decide +kernel
theorem tab_q_146_4 : ((((((am_code 146).drop 40).drop 40).drop 40).drop 40).take 40).all (tchk 146) = true := by decide +kernel
theorem tab_q_146_5 : ((((((am_code 146).drop 40).drop 40).drop 40).drop 40).drop 40).all (tchk 146) = true := by decide +kernel
theorem tab_t_146 : (List.range' 146 1).all (fun m => (am_code m).all (tchk m)) = true := all_1 (all_pc 40 tab_q_146_0 (all_pc 40 tab_q_146_1 (all_pc 40 tab_q_146_2 (all_pc 40 tab_q_146_3 (all_pc 40 tab_q_146_4 (tab_q_146_5))))))
theorem tab_t_147 : (List.range' 147 4).all (fun m => (am_code m).all (tchk m)) = true := by decide +kernel
theorem tab_t_151 : (List.range' 151 2).all (fun m => (am_code m).all (tchk m)) = true := by decide +kernel
theorem tab_q_153_0 : ((am_code 153).take 40).all (tchk 153) = true := by decide +kernel
theorem tab_q_153_1 : ((am_code 153).drop 40).all (tchk 153) = true := by decide +kernel
theorem tab_t_153 : (List.range' 153 1).all (fun m => (am_code m).all (tchk m)) = true := all_1 (all_pc 40 tab_q_153_0 (tab_q_153_1))
theorem tab_t_154 : (List.range' 154 2).all (fun m => (am_code m).all (tchk m)) = true := by decide +kernel
theorem tab_q_156_0 : ((am_code 156).take 40).all (tchk 156) = true := by decide +kernel
theorem tab_q_156_1 : ((am_code 156).drop 40).all (tchk 156) = true := by decide +kernel
theorem tab_t_156 : (List.range' 156 1).all (fun m => (am_code m).all (tchk m)) = true := all_1 (all_pc 40 tab_q_156_0 (tab_q_156_1))
theorem tab_t_157 : (List.range' 157 1).all (fun m => (am_code m).all (tchk m)) = true := by decide +kernel
theorem tab_t_158 : (List.range' 158 1).all (fun m => (am_code m).all (tchk m)) = true := by decide +kernel
theorem tab_q_159_0 : ((am_code 159).take 40).all (tchk 159) = true := by decide +kernel
theorem tab_q_159_1 : ((am_code 159).drop 40).all (tchk 159) = true := by decide +kernel
theorem tab_t_159 : (List.range' 159 1).all (fun m => (am_code m).all (tchk m)) = true := all_1 (all_pc 40 tab_q_159_0 (tab_q_159_1))
theorem tab_t_160 : (List.range' 160 2).all (fun m => (am_code m).all (tchk m)) = true := by decide +kernel
theorem tab_t_162 : (List.range' 162 1).all (fun m => (am_code m).all (tchk m)) = true := by decide +kernel
theorem tab_t_163 : (List.range' 163 3).all (fun m => (am_code m).all (tchk m)) = true := by decide +kernel

/-! the tables are as 04 wants them: by decision, 5 -/
theorem tab_t_107 : (List.range' 107 2).all (fun m => (am_code m).all (tchk m)) = true := by decide +kernel
theorem tab_t_109 : (List.range' 109 2).all (fun m => (am_code m).all (tchk m)) = true := by decide +kernel
theorem tab_t_111 : (List.range' 111 3).all (fun m => (am_code m).all (tchk m)) = true := by decide +kernel
theorem tab_t_114 : (List.range' 114 2).all (fun m => (am_code m).all (tchk m)) = true := by decide +kernel
theorem tab_t_116 : (List.range' 116 4).all (fun m => (am_code m).all (tchk m)) = true := by decide +kernel
theorem tab_t_120 : (List.range' 120 1).all (fun m => (am_code m).all (tchk m)) = true := by decide +kernel
theorem tab_t_121 : (List.range' 121 1).all (fun m => (am_code m).all (tchk m)) = true := by decide +kernel
theorem tab_t_122 : (List.range' 122 1).all (fun m => (am_code m).all (tchk m)) = true := by decide +kernel
theorem tab_t_123 : (List.range' 123 1).all (fun m => (am_code m).all (tchk m)) = true := by decide +kernel
theorem tab_t_124 : (List.range' 124 2).all (fun m => (am_code m).all (tchk m)) = true := by decide +kernel
theorem tab_q_126_0 : ((am_code 126).take 40).all (tchk 126) = true := by decide +kernel
theorem tab_q_126_1 : ((am_code 126).drop 40).all (tchk 126) = true := by decide +kernel
theorem tab_t_126 : (List.range' 126 1).all (fun m => (am_code m).all (tchk m)) = true := all_1 (all_pc 40 tab_q_126_0 (tab_q_126_1))
theorem tab_t_127 : (List.range' 127 1).all (fun m => (am_code m).all (tchk m)) = true := by decide +kernel
theorem tab_q_128_0 : ((am_code 128).take 40).all (tchk 128) = true := by decide +kernel
theorem tab_q_128_1 : ((am_code 128).drop 40).all (tchk 128) = true := by decide +kernel
theorem tab_t_128 : (List.range' 128 1).all (fun m => (am_code m).all (tchk m)) = true := all_1 (all_pc 40 tab_q_128_0 (tab_q_128_1))
theorem tab_t_129 : (List.range' 129 2).all (fun m => (am_code m).all (tchk m)) = true := by decide +kernel
theorem tab_t_131 : (List.range' 131 3).all (fun m => (am_code m).all (tchk m)) = true := by decide +kernel
theorem tab_t_134 : (List.range' 134 2).all (fun m => (am_code m).all (tchk m)) = true := by decide +kernel
theorem tab_q_136_0 : ((am_code 136).take 40).all (tchk 136) = true := by decide +kernel
theorem tab_q_136_1 : ((am_code 136).drop 40).all (tchk 136) = true := by decide +kernel
theorem tab_t_136 : (List.range' 136 1).all (fun m => (am_code m).all (tchk m)) = true := all_1 (all_pc 40 tab_q_136_0 (tab_q_136_1))
theorem tab_t_137 : (List.range' 137 2).all (fun m => (am_code m).all (tchk m)) = true := by decide +kernel
theorem tab_t_139 : (List.range' 139 1).all (fun m => (am_code m).all (tchk m)) = true := by decide +kernel
theorem tab_q_140_0 : ((am_code 140).take 40).all (tchk 140) = true := by decide +kernel
theorem tab_q_140_1 : ((am_code 140).drop 40).all (tchk 140) = true := by decide +kernel
theorem tab_t_140 : (List.range' 140 1).all (fun m => (am_code m).all (tchk m)) = true := all_1 (all_pc 40 tab_q_140_0 (tab_q_140_1))
theorem tab_t_141 : (List.range' 141 2).all (fun m => (am_code m).all (tchk m)) = true := by decide +kernel

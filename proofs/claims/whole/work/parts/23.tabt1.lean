/-! the tables, instruction by instruction -/
theorem tab_t_65 : (List.range' 65 7).all (fun m => (am_code m).all (tchk m)) = true := by decide +kernel
theorem tab_t_72 : (List.range' 72 4).all (fun m => (am_code m).all (tchk m)) = true := by decide +kernel
theorem tab_t_76 : (List.range' 76 16).all (fun m => (am_code m).all (tchk m)) = true := by decide +kernel
theorem tab_t_92 : (List.range' 92 9).all (fun m => (am_code m).all (tchk m)) = true := by decide +kernel
theorem tab_t_101 : (List.range' 101 11).all (fun m => (am_code m).all (tchk m)) = true := by decide +kernel
theorem tab_t_112 : (List.range' 112 10).all (fun m => (am_code m).all (tchk m)) = true := by decide +kernel
theorem tab_t_122 : (List.range' 122 6).all (fun m => (am_code m).all (tchk m)) = true := by decide +kernel
theorem tab_t_128 : (List.range' 128 9).all (fun m => (am_code m).all (tchk m)) = true := by decide +kernel
theorem tab_t_137 : (List.range' 137 7).all (fun m => (am_code m).all (tchk m)) = true := by decide +kernel
theorem tab_t_144 : (List.range' 144 3).all (fun m => (am_code m).all (tchk m)) = true := by decide +kernel
theorem tab_t_147 : (List.range' 147 10).all (fun m => (am_code m).all (tchk m)) = true := by decide +kernel

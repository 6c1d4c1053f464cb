/-! the throws are as 04 wants them: by decision -/
theorem tab_r : am_thrs.all thchk = true := by decide +kernel

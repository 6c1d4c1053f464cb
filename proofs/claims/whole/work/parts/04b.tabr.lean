/-! the throws are as 04 wants them: by decision -/
theorem all_pc {α : Type} {l : List α} {f : α → Bool} (n : Nat) (h1 : (l.take n).all f = true) (h2 : (l.drop n).all f = true) : l.all f = true := by
  rw [← List.take_append_drop n l, List.all_append, h1, h2]
  rfl
theorem all_1 {f : Nat → Bool} {m : Nat} (h : f m = true) : (List.range' m 1).all f = true := by
  show (f m && true) = true
  exact (Bool.and_true _).trans h
theorem tab_r_0 : (am_thrs.take 1).all thchk = true := by decide +kernel
theorem tab_r_1 : ((am_thrs.drop 1).take 1).all thchk = true := by decide +kernel
theorem tab_r_2 : (((am_thrs.drop 1).drop 1).take 1).all thchk = true := by decide +kernel
theorem tab_r_3 : (((am_thrs.drop 1).drop 1).drop 1).all thchk = true := by decide +kernel
theorem tab_r : am_thrs.all thchk = true := all_pc 1 tab_r_0 (all_pc 1 tab_r_1 (all_pc 1 tab_r_2 tab_r_3))

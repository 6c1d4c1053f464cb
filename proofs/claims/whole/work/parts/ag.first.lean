/-! the first text -/
def t0 : List Int := text 23 ++ text 24 ++ text 25 ++ text 26
def t0F : Nat → Int := fun y => t0.getD y 0
theorem t0_b : t0.length = 405 := by decide +kernel
theorem t0_c : (tok t0F 405 0) = (0, 5, 0, 1) := by decide +kernel
theorem t0_d : (match mTxt t0F 405 (fun _ => 0) (fun _ => 0) with | .inl _ => true | .inr s => false) = true := by decide +kernel
theorem t0_e : (match mTxt t0F 405 (fun _ => 0) (fun _ => 0) with | .inl e => decide (e.1 = 1) | .inr s => false) = true := by decide +kernel
theorem t0_e2 : (match mTxt t0F 405 (fun _ => 0) (fun _ => 0) with | .inl e => decide (e.1 = 4) | .inr s => false) = true := by decide +kernel
theorem t0_e3 : (match mTxt t0F 405 (fun _ => 0) (fun _ => 0) with | .inl e => decide (e.1 = 7) | .inr s => false) = true := by decide +kernel
theorem t0_f : (match mTxt t0F 405 (fun _ => 0) (fun _ => 0) with | .inl e => false | .inr s => decide (s.1 3 = 7)) = true := by decide +kernel
theorem t0_g : (match mTxt t0F 405 (fun _ => 0) (fun _ => 0) with | .inl e => false | .inr s => decide (s.1 3 = 6)) = true := by decide +kernel

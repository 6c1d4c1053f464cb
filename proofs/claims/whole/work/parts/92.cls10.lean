/-! the class's counts -/
section A
variable {K : List AKd} {h : Nat → Nat → Int} {R : R4} {σ : Sg} {r d : Nat} {w : Nat → Int} {b : Nat → Int} {n : Int}
theorem s8 {k : Nat} {x : Int} (hk : ShCv (KS r d) k) (hk0 : 0 < k) (ht : h k 6 ≤ 20) : ev 8 0 [AR k, AI x] [] (KS r d, h, R) = some (.inl (AI (if 0 ≤ x ∧ x < h k 6 then h (k + 4) x.toNat else -1)), (KS r d, h, R)) := by
  refine Rn.eq ?_
  obtain ⟨k1, k2, k3, k4, k5⟩ := hk
  refine w_iloadn f8_0 rfl ?_
  refine w_if_lt (t := 12) f8_1 (by decide) (fun c1 => ?_) (fun c1 => ?_)
  · refine w_iconst (v := -1) f8_12 (by decide) ?_
    refine w_goto (t := 22) f8_13 (by decide) ?_
    refine w_iret f8_22 rfl ?_
    first | (rw [if_pos (by omega)]; done) | (rw [if_neg (by omega)]; done)
  · refine w_iloadn f8_4 rfl ?_
    refine w_aloadn f8_5 rfl (by omega) ?_
    refine w_getI f8_6 (by decide) (by assumption) (by (try simp only [hput, hcopy, Nat.reduceEqDiff, Nat.add_left_cancel_iff, Nat.add_right_cancel_iff, Nat.left_eq_add, Nat.add_eq_left, Nat.right_eq_add, Nat.add_eq_right, Nat.reduceAdd, Nat.add_zero, Nat.succ_ne_self, Nat.one_ne_zero, Nat.zero_ne_one, eq_self, and_self, and_true, true_and, and_false, false_and, if_true, if_false, reduceIte, Int.reduceToNat, Int.toNat_natCast]); exact rfl) ?_
    refine w_ic_lt (t := 16) f8_9 (by decide) (fun c2 => ?_) (fun c2 => ?_)
    · refine w_aloadn f8_16 rfl (by omega) ?_
      refine w_getR f8_17 (by assumption) rfl (by omega) ?_
      refine w_iloadn f8_20 rfl ?_
      refine w_iald f8_21 (by assumption) (by omega) (by (try simp only [hput, hcopy, Nat.reduceEqDiff, Nat.add_left_cancel_iff, Nat.add_right_cancel_iff, Nat.left_eq_add, Nat.add_eq_left, Nat.right_eq_add, Nat.add_eq_right, Nat.reduceAdd, Nat.add_zero, Nat.succ_ne_self, Nat.one_ne_zero, Nat.zero_ne_one, eq_self, and_self, and_true, true_and, and_false, false_and, if_true, if_false, reduceIte, Int.reduceToNat, Int.toNat_natCast]); exact rfl) ?_
      refine w_iret f8_22 rfl ?_
      first | (rw [if_pos (by omega)]; done) | (rw [if_neg (by omega)]; done)
    · refine w_iconst (v := -1) f8_12 (by decide) ?_
      refine w_goto (t := 22) f8_13 (by decide) ?_
      refine w_iret f8_22 rfl ?_
      first | (rw [if_pos (by omega)]; done) | (rw [if_neg (by omega)]; done)
end A

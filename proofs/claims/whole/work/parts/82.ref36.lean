/-! small ones -/
section A
variable {K : List AKd} {h : Nat → Nat → Int} {R : R4} {σ : Sg} {r d : Nat} {w : Nat → Int} {b : Nat → Int} {n : Int}
theorem keepW_d {N s x y z : Int} (q : WFd w N) (h4 : w 4 < 12) (hs : s = -1 ∨ (0 ≤ s ∧ s < w 0)) (hx : 0 ≤ x ∧ x < w 2) (hy : 0 ≤ y ∧ y ≤ 5) (hz : 0 ≤ z ∧ z ≤ 9) : WFd (keepW w s x y z) N := by
  obtain ⟨hW, hc, d1, d2, d3, d4⟩ := q
  have v4 := hW.1.2.2.2.2
  have M : Mid w (keepW w s x y z) := keepW_mid ⟨v4.1, h4⟩
  have o : ∀ y1 : Nat, y1 < 4 → keepW w s x y z y1 = w y1 := fun y1 h => by
    unfold keepW udI
    rw [if_neg (by omega), if_neg (by omega), if_neg (by omega), if_neg (by omega), if_neg (by omega)]
  refine ⟨keepW_W hW h4 hs hx hy hz, ?_, by rw [M 18 (by omega)]; exact d1, fun y1 h => by rw [M y1 (by omega)]; exact d2 y1 h, by rw [M 5 (by omega), o 0 (by omega)]; exact d3, fun k hk => ?_⟩
  · unfold WFc
    rw [M 5 (by omega), M 6 (by omega), M 7 (by omega), M 8 (by omega)]
    exact hc
  · rw [M 18 (by omega)] at hk
    rw [o 1 (by omega), o 3 (by omega), M (19 + 2 * k) (by omega), M (20 + 2 * k) (by omega)]
    exact d4 k hk
theorem s147 : ev 147 0 [AR 268] [] (KS r d, h, R) = some (.inl (AI (h 268 6)), (KS r d, h, R)) := by
  refine Rn.eq ?_
  have k0 := @kd_268 r d
  refine w_aloadn f147_0 rfl (by omega) ?_
  refine w_getI f147_1 (by decide) (by assumption) (by (try simp only [hput, hcopy, Nat.reduceEqDiff, Nat.add_left_cancel_iff, Nat.add_right_cancel_iff, Nat.left_eq_add, Nat.add_eq_left, Nat.right_eq_add, Nat.add_eq_right, Nat.reduceAdd, Nat.add_zero, Nat.succ_ne_self, Nat.one_ne_zero, Nat.zero_ne_one, eq_self, and_self, and_true, true_and, and_false, false_and, if_true, if_false, reduceIte, Int.reduceToNat, Int.toNat_natCast]); exact rfl) ?_
  refine w_iret f147_4 rfl ?_
  rfl
end A

/-! the class's counts, II -/
section A
variable {K : List AKd} {h : Nat → Nat → Int} {R : R4} {σ : Sg} {r d : Nat} {w : Nat → Int} {b : Nat → Int} {n : Int}
theorem s7 {k : Nat} {x : Int} (hk : ShCv (KS r d) k) (hk0 : 0 < k) (hx : 0 ≤ x ∧ x < 5) : ev 7 0 [AR k, AI x] [] (KS r d, h, R) = some (.inl AU, (KS r d, hput (hput h k 4 (wr (h k 4 + 1))) (k + 3) x.toNat (wr (h (k + 3) x.toNat + 1)), R)) := by
  refine Rn.eq ?_
  obtain ⟨k1, k2, k3, k4, k5⟩ := hk
  refine w_aloadn f7_0 rfl (by omega) ?_
  refine w_dup f7_1 rfl ?_
  refine w_getI f7_2 (by decide) (by assumption) (by (try simp only [hput, hcopy, Nat.reduceEqDiff, Nat.add_left_cancel_iff, Nat.add_right_cancel_iff, Nat.left_eq_add, Nat.add_eq_left, Nat.right_eq_add, Nat.add_eq_right, Nat.reduceAdd, Nat.add_zero, Nat.succ_ne_self, Nat.one_ne_zero, Nat.zero_ne_one, eq_self, and_self, and_true, true_and, and_false, false_and, if_true, if_false, reduceIte, Int.reduceToNat, Int.toNat_natCast]); exact rfl) ?_
  refine w_iconst (v := 1) f7_5 (by decide) ?_
  refine w_iadd f7_6 ?_
  refine w_putI f7_7 (by assumption) ?_
  refine w_aloadn f7_10 rfl (by omega) ?_
  refine w_getR f7_11 (by assumption) rfl (by omega) ?_
  refine w_iloadn f7_14 rfl ?_
  refine w_dup2 f7_15 rfl ?_
  refine w_iald f7_16 (by assumption) (by omega) (by exact hput_k (by omega)) ?_
  refine w_iconst (v := 1) f7_17 (by decide) ?_
  refine w_iadd f7_18 ?_
  refine w_iast f7_19 (by assumption) (by omega) ?_
  refine w_ret f7_20 rfl ?_
  rfl
theorem l12 {k m : Nat} (hk : kdK (KS r d) k = some (20, m, [])) (hk0 : 0 < k) (hm : m < 1000) : ∀ (f : Nat) (i a : Int) (v : AV), 0 ≤ i → i + f = m → ev 12 10 [AR k, AI a, AR k, AI m, AI i, v] [] (KS r d, h, R) = some (.inl (AI (smG (h k) 0 f i a)), (KS r d, h, R)) := by
  intro f
  induction f with
  | zero =>
    intro i a v h1 h2
    refine Rn.eq ?_
    refine w_iload f12_10 rfl ?_
    refine w_iloadn f12_12 rfl ?_
    refine w_ic_ge (t := 33) f12_13 (by decide) (fun c1 => ?_) (fun c1 => by omega)
    refine w_iloadn f12_33 rfl ?_
    refine w_iret f12_34 rfl ?_
    rfl
  | succ f ih =>
    intro i a v h1 h2
    refine Rn.eq ?_
    have e : smG (h k) 0 (f + 1) i a = smG (h k) 0 f (i + 1) (wr (a + h k i.toNat)) := by
      show smG (h k) 0 f (i + 1) (wr (a + h k (0 + i).toNat)) = _
      rw [Int.zero_add]
    refine w_iload f12_10 rfl ?_
    refine w_iloadn f12_12 rfl ?_
    refine w_ic_ge (t := 33) f12_13 (by decide) (fun c1 => by omega) (fun c1 => ?_)
    refine w_aloadn f12_16 rfl (by omega) ?_
    refine w_iload f12_17 rfl ?_
    refine w_iald f12_19 (by assumption) (by omega) (by (try simp only [hput, hcopy, Nat.reduceEqDiff, Nat.add_left_cancel_iff, Nat.add_right_cancel_iff, Nat.left_eq_add, Nat.add_eq_left, Nat.right_eq_add, Nat.add_eq_right, Nat.reduceAdd, Nat.add_zero, Nat.succ_ne_self, Nat.one_ne_zero, Nat.zero_ne_one, eq_self, and_self, and_true, true_and, and_false, false_and, if_true, if_false, reduceIte, Int.reduceToNat, Int.toNat_natCast]); exact rfl) ?_
    refine w_istore f12_20 (Nat.le_of_ble_eq_true rfl) (sto_6_5 rfl) ?_
    refine w_iloadn f12_22 rfl ?_
    refine w_iload f12_23 rfl ?_
    refine w_iadd f12_25 ?_
    refine w_istoren f12_26 (Nat.le_of_ble_eq_true rfl) (sto_6_1 rfl) ?_
    refine w_iincn f12_27 rfl (by omega) (sto_6_4 rfl) ?_
    refine w_goto (t := 10) f12_30 (by decide) ?_
    rw [e]
    exact Rn.to (ih _ _ _ (by omega) (by omega)) rfl
end A

/-! the class's counts -/
section A
variable {K : List AKd} {h : Nat → Nat → Int} {R : R4} {σ : Sg} {r d : Nat} {w : Nat → Int} {b : Nat → Int} {n : Int}
theorem s8 {k : Nat} {x : Int} (hk : ShCv (KS r d) k) (hk0 : 0 < k) (ht : h k 6 ≤ 20) : ev 8 0 [AR k, AI x] [] (KS r d, h, R) = some (.inl (AI (if 0 ≤ x ∧ x < h k 6 then h (k + 4) x.toNat else -1)), (KS r d, h, R)) := by
  refine Rn.eq ?_
  obtain ⟨k1, k2, k3, k4, k5⟩ := hk
  refine w_iloadn f8_0 rfl ?_
  refine w_if_lt (t := 12) f8_1 (by decide) (fun c1 => ?_) (fun c1 => ?_)
  · refine w_iconst (v := -1) f8_12 (by decide) ?_
    refine w_goto (t := 22) f8_13 (by decide) ?_
    refine w_iret f8_22 rfl ?_
    first | (rw [if_pos (by omega)]; done) | (rw [if_neg (by omega)]; done)
  · refine w_iloadn f8_4 rfl ?_
    refine w_aloadn f8_5 rfl (by omega) ?_
    refine w_getI f8_6 (by decide) (by assumption) (by (try simp only [hput, hcopy, Nat.reduceEqDiff, Nat.add_left_cancel_iff, Nat.add_right_cancel_iff, Nat.left_eq_add, Nat.add_eq_left, Nat.right_eq_add, Nat.add_eq_right, Nat.reduceAdd, Nat.add_zero, Nat.succ_ne_self, Nat.one_ne_zero, Nat.zero_ne_one, eq_self, and_self, and_true, true_and, and_false, false_and, if_true, if_false, reduceIte, Int.reduceToNat, Int.toNat_natCast]); exact rfl) ?_
    refine w_ic_lt (t := 16) f8_9 (by decide) (fun c2 => ?_) (fun c2 => ?_)
    · refine w_aloadn f8_16 rfl (by omega) ?_
      refine w_getR f8_17 (by assumption) rfl (by omega) ?_
      refine w_iloadn f8_20 rfl ?_
      refine w_iald f8_21 (by assumption) (by omega) (by (try simp only [hput, hcopy, Nat.reduceEqDiff, Nat.add_left_cancel_iff, Nat.add_right_cancel_iff, Nat.left_eq_add, Nat.add_eq_left, Nat.right_eq_add, Nat.add_eq_right, Nat.reduceAdd, Nat.add_zero, Nat.succ_ne_self, Nat.one_ne_zero, Nat.zero_ne_one, eq_self, and_self, and_true, true_and, and_false, false_and, if_true, if_false, reduceIte, Int.reduceToNat, Int.toNat_natCast]); exact rfl) ?_
      refine w_iret f8_22 rfl ?_
      first | (rw [if_pos (by omega)]; done) | (rw [if_neg (by omega)]; done)
    · refine w_iconst (v := -1) f8_12 (by decide) ?_
      refine w_goto (t := 22) f8_13 (by decide) ?_
      refine w_iret f8_22 rfl ?_
      first | (rw [if_pos (by omega)]; done) | (rw [if_neg (by omega)]; done)
theorem l9 {k : Nat} {x : Int} (hk : ShCv (KS r d) k) (hk0 : 0 < k) (hx : x ≤ 10) : ∀ (f : Nat) (i a : Int), 0 ≤ i → i + f = x → 0 ≤ a → a + f ≤ 1000 → ev 9 4 [AR k, AI x, AI a, AI i] [] (KS r d, h, R) = some (.inl (AI (cnG (h (k + 2)) 0 f i a)), (KS r d, h, R)) := by
  intro f
  obtain ⟨k1, k2, k3, k4, k5⟩ := hk
  induction f with
  | zero =>
    intro i a h1 h2 h3 h4
    refine Rn.eq ?_
    refine w_iloadn f9_4 rfl ?_
    refine w_iloadn f9_5 rfl ?_
    refine w_ic_ge (t := 27) f9_6 (by decide) (fun c1 => ?_) (fun c1 => by omega)
    refine w_iloadn f9_27 rfl ?_
    refine w_iret f9_28 rfl ?_
    rfl
  | succ f ih =>
    intro i a h1 h2 h3 h4
    refine Rn.eq ?_
    have e1 : 0 < h (k + 2) i.toNat → cnG (h (k + 2)) 0 (f + 1) i a = cnG (h (k + 2)) 0 f (i + 1) (a + 1) := fun z => by
      show cnG (h (k + 2)) 0 f (i + 1) (a + if 0 < h (k + 2) (0 + i).toNat then 1 else 0) = _
      rw [Int.zero_add, if_pos z]
    have e2 : ¬ 0 < h (k + 2) i.toNat → cnG (h (k + 2)) 0 (f + 1) i a = cnG (h (k + 2)) 0 f (i + 1) a := fun z => by
      show cnG (h (k + 2)) 0 f (i + 1) (a + if 0 < h (k + 2) (0 + i).toNat then 1 else 0) = _
      rw [Int.zero_add, if_neg z, Int.add_zero]
    refine w_iloadn f9_4 rfl ?_
    refine w_iloadn f9_5 rfl ?_
    refine w_ic_ge (t := 27) f9_6 (by decide) (fun c1 => by omega) (fun c1 => ?_)
    refine w_aloadn f9_9 rfl (by omega) ?_
    refine w_getR f9_10 (by assumption) rfl (by omega) ?_
    refine w_iloadn f9_13 rfl ?_
    refine w_iald f9_14 (by assumption) (by omega) (by (try simp only [hput, hcopy, Nat.reduceEqDiff, Nat.add_left_cancel_iff, Nat.add_right_cancel_iff, Nat.left_eq_add, Nat.add_eq_left, Nat.right_eq_add, Nat.add_eq_right, Nat.reduceAdd, Nat.add_zero, Nat.succ_ne_self, Nat.one_ne_zero, Nat.zero_ne_one, eq_self, and_self, and_true, true_and, and_false, false_and, if_true, if_false, reduceIte, Int.reduceToNat, Int.toNat_natCast]); exact rfl) ?_
    refine w_if_le (t := 21) f9_15 (by decide) (fun c2 => ?_) (fun c2 => ?_)
    · refine w_iincn f9_21 rfl (by omega) (sto_4_3 rfl) ?_
      refine w_goto (t := 4) f9_24 (by decide) ?_
      by_cases z : 0 < h (k + 2) i.toNat
      · first | (exfalso; omega) | (rw [e1 z]; exact Rn.to (ih _ _ (by omega) (by omega) (by omega) (by omega)) rfl)
      · first | (exfalso; omega) | (rw [e2 z]; exact Rn.to (ih _ _ (by omega) (by omega) (by omega) (by omega)) rfl)
    · refine w_iincn f9_18 rfl (by omega) (sto_4_2 rfl) ?_
      refine w_iincn f9_21 rfl (by omega) (sto_4_3 rfl) ?_
      refine w_goto (t := 4) f9_24 (by decide) ?_
      by_cases z : 0 < h (k + 2) i.toNat
      · first | (exfalso; omega) | (rw [e1 z]; exact Rn.to (ih _ _ (by omega) (by omega) (by omega) (by omega)) rfl)
      · first | (exfalso; omega) | (rw [e2 z]; exact Rn.to (ih _ _ (by omega) (by omega) (by omega) (by omega)) rfl)
theorem s9 {k : Nat} {x : Int} (hk : ShCv (KS r d) k) (hk0 : 0 < k) (hx : 0 ≤ x ∧ x ≤ 10) : ev 9 0 [AR k, AI x, AU, AU] [] (KS r d, h, R) = some (.inl (AI (cnG (h (k + 2)) 0 x.toNat 0 0)), (KS r d, h, R)) := by
  refine Rn.eq ?_
  refine w_iconst (v := 0) f9_0 (by decide) ?_
  refine w_istoren f9_1 (Nat.le_of_ble_eq_true rfl) (sto_4_2 rfl) ?_
  refine w_iconst (v := 0) f9_2 (by decide) ?_
  refine w_istoren f9_3 (Nat.le_of_ble_eq_true rfl) (sto_4_3 rfl) ?_
  exact Rn.to (l9 hk hk0 hx.2 x.toNat 0 0 (by omega) (by omega) (by omega) (by omega)) rfl
theorem l10 {k : Nat} {x : Int} (hk : ShCv (KS r d) k) (hk0 : 0 < k) (hx : x ≤ 24) : ∀ (f : Nat) (i a : Int), 0 ≤ i → i + f = x → 0 ≤ a → a + f ≤ 1000 → ev 10 4 [AR k, AI x, AI a, AI i] [] (KS r d, h, R) = some (.inl (AI (cnG (h (k + 1)) 0 f i a)), (KS r d, h, R)) := by
  intro f
  obtain ⟨k1, k2, k3, k4, k5⟩ := hk
  induction f with
  | zero =>
    intro i a h1 h2 h3 h4
    refine Rn.eq ?_
    refine w_iloadn f10_4 rfl ?_
    refine w_iloadn f10_5 rfl ?_
    refine w_ic_ge (t := 27) f10_6 (by decide) (fun c1 => ?_) (fun c1 => by omega)
    refine w_iloadn f10_27 rfl ?_
    refine w_iret f10_28 rfl ?_
    rfl
  | succ f ih =>
    intro i a h1 h2 h3 h4
    refine Rn.eq ?_
    have e1 : 0 < h (k + 1) i.toNat → cnG (h (k + 1)) 0 (f + 1) i a = cnG (h (k + 1)) 0 f (i + 1) (a + 1) := fun z => by
      show cnG (h (k + 1)) 0 f (i + 1) (a + if 0 < h (k + 1) (0 + i).toNat then 1 else 0) = _
      rw [Int.zero_add, if_pos z]
    have e2 : ¬ 0 < h (k + 1) i.toNat → cnG (h (k + 1)) 0 (f + 1) i a = cnG (h (k + 1)) 0 f (i + 1) a := fun z => by
      show cnG (h (k + 1)) 0 f (i + 1) (a + if 0 < h (k + 1) (0 + i).toNat then 1 else 0) = _
      rw [Int.zero_add, if_neg z, Int.add_zero]
    refine w_iloadn f10_4 rfl ?_
    refine w_iloadn f10_5 rfl ?_
    refine w_ic_ge (t := 27) f10_6 (by decide) (fun c1 => by omega) (fun c1 => ?_)
    refine w_aloadn f10_9 rfl (by omega) ?_
    refine w_getR f10_10 (by assumption) rfl (by omega) ?_
    refine w_iloadn f10_13 rfl ?_
    refine w_iald f10_14 (by assumption) (by omega) (by (try simp only [hput, hcopy, Nat.reduceEqDiff, Nat.add_left_cancel_iff, Nat.add_right_cancel_iff, Nat.left_eq_add, Nat.add_eq_left, Nat.right_eq_add, Nat.add_eq_right, Nat.reduceAdd, Nat.add_zero, Nat.succ_ne_self, Nat.one_ne_zero, Nat.zero_ne_one, eq_self, and_self, and_true, true_and, and_false, false_and, if_true, if_false, reduceIte, Int.reduceToNat, Int.toNat_natCast]); exact rfl) ?_
    refine w_if_le (t := 21) f10_15 (by decide) (fun c2 => ?_) (fun c2 => ?_)
    · refine w_iincn f10_21 rfl (by omega) (sto_4_3 rfl) ?_
      refine w_goto (t := 4) f10_24 (by decide) ?_
      by_cases z : 0 < h (k + 1) i.toNat
      · first | (exfalso; omega) | (rw [e1 z]; exact Rn.to (ih _ _ (by omega) (by omega) (by omega) (by omega)) rfl)
      · first | (exfalso; omega) | (rw [e2 z]; exact Rn.to (ih _ _ (by omega) (by omega) (by omega) (by omega)) rfl)
    · refine w_iincn f10_18 rfl (by omega) (sto_4_2 rfl) ?_
      refine w_iincn f10_21 rfl (by omega) (sto_4_3 rfl) ?_
      refine w_goto (t := 4) f10_24 (by decide) ?_
      by_cases z : 0 < h (k + 1) i.toNat
      · first | (exfalso; omega) | (rw [e1 z]; exact Rn.to (ih _ _ (by omega) (by omega) (by omega) (by omega)) rfl)
      · first | (exfalso; omega) | (rw [e2 z]; exact Rn.to (ih _ _ (by omega) (by omega) (by omega) (by omega)) rfl)
theorem s10 {k : Nat} {x : Int} (hk : ShCv (KS r d) k) (hk0 : 0 < k) (hx : 0 ≤ x ∧ x ≤ 24) : ev 10 0 [AR k, AI x, AU, AU] [] (KS r d, h, R) = some (.inl (AI (cnG (h (k + 1)) 0 x.toNat 0 0)), (KS r d, h, R)) := by
  refine Rn.eq ?_
  refine w_iconst (v := 0) f10_0 (by decide) ?_
  refine w_istoren f10_1 (Nat.le_of_ble_eq_true rfl) (sto_4_2 rfl) ?_
  refine w_iconst (v := 0) f10_2 (by decide) ?_
  refine w_istoren f10_3 (Nat.le_of_ble_eq_true rfl) (sto_4_3 rfl) ?_
  exact Rn.to (l10 hk hk0 hx.2 x.toNat 0 0 (by omega) (by omega) (by omega) (by omega)) rfl
end A

/-! what the reference answers at once -/
section A
variable {K : List AKd} {h : Nat → Nat → Int} {R : R4} {σ : Sg} {r d : Nat} {w : Nat → Int}
theorem s221 : ev 221 0 [AR 268] [] (KS r d, h, R) = some (.inl (AI (h 268 14)), (KS r d, hput h 268 6 0, R)) := by
  refine Rn.eq ?_
  have k0 := @kd_268 r d
  refine w_aloadn f221_0 rfl (by omega) ?_
  refine w_iconst (v := 0) f221_1 (by decide) ?_
  refine w_putI f221_2 (by assumption) ?_
  refine w_aloadn f221_5 rfl (by omega) ?_
  refine w_getI f221_6 (by decide) (by assumption) (by (try simp only [hput, hcopy, Nat.reduceEqDiff, Nat.add_left_cancel_iff, Nat.add_right_cancel_iff, Nat.left_eq_add, Nat.add_eq_left, Nat.right_eq_add, Nat.add_eq_right, Nat.reduceAdd, Nat.add_zero, Nat.succ_ne_self, Nat.one_ne_zero, Nat.zero_ne_one, eq_self, and_self, and_true, true_and, and_false, false_and, if_true, if_false, reduceIte, Int.reduceToNat, Int.toNat_natCast]); exact rfl) ?_
  refine w_iret f221_9 rfl ?_
  rfl
theorem s222 : ev 222 0 [AR 268] [] (KS r d, h, R) = some (.inl (AI (h 268 15)), (KS r d, hput h 268 6 0, R)) := by
  refine Rn.eq ?_
  have k0 := @kd_268 r d
  refine w_aloadn f222_0 rfl (by omega) ?_
  refine w_iconst (v := 0) f222_1 (by decide) ?_
  refine w_putI f222_2 (by assumption) ?_
  refine w_aloadn f222_5 rfl (by omega) ?_
  refine w_getI f222_6 (by decide) (by assumption) (by (try simp only [hput, hcopy, Nat.reduceEqDiff, Nat.add_left_cancel_iff, Nat.add_right_cancel_iff, Nat.left_eq_add, Nat.add_eq_left, Nat.right_eq_add, Nat.add_eq_right, Nat.reduceAdd, Nat.add_zero, Nat.succ_ne_self, Nat.one_ne_zero, Nat.zero_ne_one, eq_self, and_self, and_true, true_and, and_false, false_and, if_true, if_false, reduceIte, Int.reduceToNat, Int.toNat_natCast]); exact rfl) ?_
  refine w_iret f222_9 rfl ?_
  rfl
theorem s223 (hw : h 269 = w) : ev 223 0 [AR 268] [] (KS r d, h, R) = some (.inl (AI (w 0)), (KS r d, hput h 268 6 0, R)) := by
  refine Rn.eq ?_
  have k0 := @kd_268 r d
  have k1 := @kd_269 r d
  refine w_aloadn f223_0 rfl (by omega) ?_
  refine w_iconst (v := 0) f223_1 (by decide) ?_
  refine w_putI f223_2 (by assumption) ?_
  refine w_aloadn f223_5 rfl (by omega) ?_
  refine w_getR f223_6 (by assumption) rfl (by omega) ?_
  refine w_iconst (v := 0) f223_9 (by decide) ?_
  refine w_iald f223_10 (by assumption) (by omega) (by (try simp only [hput, hcopy, Nat.reduceEqDiff, Nat.add_left_cancel_iff, Nat.add_right_cancel_iff, Nat.left_eq_add, Nat.add_eq_left, Nat.right_eq_add, Nat.add_eq_right, Nat.reduceAdd, Nat.add_zero, Nat.succ_ne_self, Nat.one_ne_zero, Nat.zero_ne_one, eq_self, and_self, and_true, true_and, and_false, false_and, if_true, if_false, reduceIte, Int.reduceToNat, Int.toNat_natCast, hw]); exact rfl) ?_
  refine w_iret f223_11 rfl ?_
  rfl
theorem s224 (hw : h 269 = w) : ev 224 0 [AR 268] [] (KS r d, h, R) = some (.inl (AI (w 1)), (KS r d, hput h 268 6 0, R)) := by
  refine Rn.eq ?_
  have k0 := @kd_268 r d
  have k1 := @kd_269 r d
  refine w_aloadn f224_0 rfl (by omega) ?_
  refine w_iconst (v := 0) f224_1 (by decide) ?_
  refine w_putI f224_2 (by assumption) ?_
  refine w_aloadn f224_5 rfl (by omega) ?_
  refine w_getR f224_6 (by assumption) rfl (by omega) ?_
  refine w_iconst (v := 1) f224_9 (by decide) ?_
  refine w_iald f224_10 (by assumption) (by omega) (by (try simp only [hput, hcopy, Nat.reduceEqDiff, Nat.add_left_cancel_iff, Nat.add_right_cancel_iff, Nat.left_eq_add, Nat.add_eq_left, Nat.right_eq_add, Nat.add_eq_right, Nat.reduceAdd, Nat.add_zero, Nat.succ_ne_self, Nat.one_ne_zero, Nat.zero_ne_one, eq_self, and_self, and_true, true_and, and_false, false_and, if_true, if_false, reduceIte, Int.reduceToNat, Int.toNat_natCast, hw]); exact rfl) ?_
  refine w_iret f224_11 rfl ?_
  rfl
theorem s225 (hw : h 269 = w) : ev 225 0 [AR 268] [] (KS r d, h, R) = some (.inl (AI (w 2)), (KS r d, hput h 268 6 0, R)) := by
  refine Rn.eq ?_
  have k0 := @kd_268 r d
  have k1 := @kd_269 r d
  refine w_aloadn f225_0 rfl (by omega) ?_
  refine w_iconst (v := 0) f225_1 (by decide) ?_
  refine w_putI f225_2 (by assumption) ?_
  refine w_aloadn f225_5 rfl (by omega) ?_
  refine w_getR f225_6 (by assumption) rfl (by omega) ?_
  refine w_iconst (v := 2) f225_9 (by decide) ?_
  refine w_iald f225_10 (by assumption) (by omega) (by (try simp only [hput, hcopy, Nat.reduceEqDiff, Nat.add_left_cancel_iff, Nat.add_right_cancel_iff, Nat.left_eq_add, Nat.add_eq_left, Nat.right_eq_add, Nat.add_eq_right, Nat.reduceAdd, Nat.add_zero, Nat.succ_ne_self, Nat.one_ne_zero, Nat.zero_ne_one, eq_self, and_self, and_true, true_and, and_false, false_and, if_true, if_false, reduceIte, Int.reduceToNat, Int.toNat_natCast, hw]); exact rfl) ?_
  refine w_iret f225_11 rfl ?_
  rfl
theorem s226 (hw : h 269 = w) : ev 226 0 [AR 268] [] (KS r d, h, R) = some (.inl (AI (w 3)), (KS r d, hput h 268 6 0, R)) := by
  refine Rn.eq ?_
  have k0 := @kd_268 r d
  have k1 := @kd_269 r d
  refine w_aloadn f226_0 rfl (by omega) ?_
  refine w_iconst (v := 0) f226_1 (by decide) ?_
  refine w_putI f226_2 (by assumption) ?_
  refine w_aloadn f226_5 rfl (by omega) ?_
  refine w_getR f226_6 (by assumption) rfl (by omega) ?_
  refine w_iconst (v := 3) f226_9 (by decide) ?_
  refine w_iald f226_10 (by assumption) (by omega) (by (try simp only [hput, hcopy, Nat.reduceEqDiff, Nat.add_left_cancel_iff, Nat.add_right_cancel_iff, Nat.left_eq_add, Nat.add_eq_left, Nat.right_eq_add, Nat.add_eq_right, Nat.reduceAdd, Nat.add_zero, Nat.succ_ne_self, Nat.one_ne_zero, Nat.zero_ne_one, eq_self, and_self, and_true, true_and, and_false, false_and, if_true, if_false, reduceIte, Int.reduceToNat, Int.toNat_natCast, hw]); exact rfl) ?_
  refine w_iret f226_11 rfl ?_
  rfl
theorem s227 (hw : h 269 = w) : ev 227 0 [AR 268] [] (KS r d, h, R) = some (.inl (AI (w 4)), (KS r d, hput h 268 6 0, R)) := by
  refine Rn.eq ?_
  have k0 := @kd_268 r d
  have k1 := @kd_269 r d
  refine w_aloadn f227_0 rfl (by omega) ?_
  refine w_iconst (v := 0) f227_1 (by decide) ?_
  refine w_putI f227_2 (by assumption) ?_
  refine w_aloadn f227_5 rfl (by omega) ?_
  refine w_getR f227_6 (by assumption) rfl (by omega) ?_
  refine w_iconst (v := 4) f227_9 (by decide) ?_
  refine w_iald f227_10 (by assumption) (by omega) (by (try simp only [hput, hcopy, Nat.reduceEqDiff, Nat.add_left_cancel_iff, Nat.add_right_cancel_iff, Nat.left_eq_add, Nat.add_eq_left, Nat.right_eq_add, Nat.add_eq_right, Nat.reduceAdd, Nat.add_zero, Nat.succ_ne_self, Nat.one_ne_zero, Nat.zero_ne_one, eq_self, and_self, and_true, true_and, and_false, false_and, if_true, if_false, reduceIte, Int.reduceToNat, Int.toNat_natCast, hw]); exact rfl) ?_
  refine w_iret f227_11 rfl ?_
  rfl
theorem s228 (hw : h 269 = w) : ev 228 0 [AR 268] [] (KS r d, h, R) = some (.inl (AI (w 5)), (KS r d, hput h 268 6 0, R)) := by
  refine Rn.eq ?_
  have k0 := @kd_268 r d
  have k1 := @kd_269 r d
  refine w_aloadn f228_0 rfl (by omega) ?_
  refine w_iconst (v := 0) f228_1 (by decide) ?_
  refine w_putI f228_2 (by assumption) ?_
  refine w_aloadn f228_5 rfl (by omega) ?_
  refine w_getR f228_6 (by assumption) rfl (by omega) ?_
  refine w_iconst (v := 5) f228_9 (by decide) ?_
  refine w_iald f228_10 (by assumption) (by omega) (by (try simp only [hput, hcopy, Nat.reduceEqDiff, Nat.add_left_cancel_iff, Nat.add_right_cancel_iff, Nat.left_eq_add, Nat.add_eq_left, Nat.right_eq_add, Nat.add_eq_right, Nat.reduceAdd, Nat.add_zero, Nat.succ_ne_self, Nat.one_ne_zero, Nat.zero_ne_one, eq_self, and_self, and_true, true_and, and_false, false_and, if_true, if_false, reduceIte, Int.reduceToNat, Int.toNat_natCast, hw]); exact rfl) ?_
  refine w_iret f228_11 rfl ?_
  rfl
theorem s229 (hw : h 269 = w) : ev 229 0 [AR 268] [] (KS r d, h, R) = some (.inl (AI (w 12)), (KS r d, hput h 268 6 0, R)) := by
  refine Rn.eq ?_
  have k0 := @kd_268 r d
  have k1 := @kd_269 r d
  refine w_aloadn f229_0 rfl (by omega) ?_
  refine w_iconst (v := 0) f229_1 (by decide) ?_
  refine w_putI f229_2 (by assumption) ?_
  refine w_aloadn f229_5 rfl (by omega) ?_
  refine w_getR f229_6 (by assumption) rfl (by omega) ?_
  refine w_bipush (v := 12) f229_9 (by decide) ?_
  refine w_iald f229_11 (by assumption) (by omega) (by (try simp only [hput, hcopy, Nat.reduceEqDiff, Nat.add_left_cancel_iff, Nat.add_right_cancel_iff, Nat.left_eq_add, Nat.add_eq_left, Nat.right_eq_add, Nat.add_eq_right, Nat.reduceAdd, Nat.add_zero, Nat.succ_ne_self, Nat.one_ne_zero, Nat.zero_ne_one, eq_self, and_self, and_true, true_and, and_false, false_and, if_true, if_false, reduceIte, Int.reduceToNat, Int.toNat_natCast, hw]); exact rfl) ?_
  refine w_iret f229_12 rfl ?_
  rfl
theorem s230 (hw : h 269 = w) : ev 230 0 [AR 268] [] (KS r d, h, R) = some (.inl (AI (w 17)), (KS r d, hput h 268 6 0, R)) := by
  refine Rn.eq ?_
  have k0 := @kd_268 r d
  have k1 := @kd_269 r d
  refine w_aloadn f230_0 rfl (by omega) ?_
  refine w_iconst (v := 0) f230_1 (by decide) ?_
  refine w_putI f230_2 (by assumption) ?_
  refine w_aloadn f230_5 rfl (by omega) ?_
  refine w_getR f230_6 (by assumption) rfl (by omega) ?_
  refine w_bipush (v := 17) f230_9 (by decide) ?_
  refine w_iald f230_11 (by assumption) (by omega) (by (try simp only [hput, hcopy, Nat.reduceEqDiff, Nat.add_left_cancel_iff, Nat.add_right_cancel_iff, Nat.left_eq_add, Nat.add_eq_left, Nat.right_eq_add, Nat.add_eq_right, Nat.reduceAdd, Nat.add_zero, Nat.succ_ne_self, Nat.one_ne_zero, Nat.zero_ne_one, eq_self, and_self, and_true, true_and, and_false, false_and, if_true, if_false, reduceIte, Int.reduceToNat, Int.toNat_natCast, hw]); exact rfl) ?_
  refine w_iret f230_12 rfl ?_
  rfl
theorem s231 (hw : h 269 = w) : ev 231 0 [AR 268] [] (KS r d, h, R) = some (.inl (AI (w 18)), (KS r d, hput h 268 6 0, R)) := by
  refine Rn.eq ?_
  have k0 := @kd_268 r d
  have k1 := @kd_269 r d
  refine w_aloadn f231_0 rfl (by omega) ?_
  refine w_iconst (v := 0) f231_1 (by decide) ?_
  refine w_putI f231_2 (by assumption) ?_
  refine w_aloadn f231_5 rfl (by omega) ?_
  refine w_getR f231_6 (by assumption) rfl (by omega) ?_
  refine w_bipush (v := 18) f231_9 (by decide) ?_
  refine w_iald f231_11 (by assumption) (by omega) (by (try simp only [hput, hcopy, Nat.reduceEqDiff, Nat.add_left_cancel_iff, Nat.add_right_cancel_iff, Nat.left_eq_add, Nat.add_eq_left, Nat.right_eq_add, Nat.add_eq_right, Nat.reduceAdd, Nat.add_zero, Nat.succ_ne_self, Nat.one_ne_zero, Nat.zero_ne_one, eq_self, and_self, and_true, true_and, and_false, false_and, if_true, if_false, reduceIte, Int.reduceToNat, Int.toNat_natCast, hw]); exact rfl) ?_
  refine w_iret f231_12 rfl ?_
  rfl
def ltr (w : Nat → Int) (c i : Int) : Int := if 0 ≤ i ∧ i < w c.toNat then w (c + 1 + i).toNat else -1
theorem s233 {c i : Int} (hw : h 269 = w) (hc : 0 ≤ c ∧ c ≤ 497) (hn : 0 ≤ w c.toNat ∧ w c.toNat ≤ 6) : ev 233 0 [AR 268, AI c, AI i] [] (KS r d, h, R) = some (.inl (AI (ltr w c i)), (KS r d, h, R)) := by
  refine Rn.eq ?_
  have k0 := @kd_268 r d
  have k1 := @kd_269 r d
  refine w_iloadn f233_0 rfl ?_
  refine w_iconst (v := 0) f233_1 (by decide) ?_
  refine w_aloadn f233_2 rfl (by omega) ?_
  refine w_getR f233_3 (by assumption) rfl (by omega) ?_
  refine w_iloadn f233_6 rfl ?_
  refine w_iald f233_7 (by assumption) (by omega) (by (try simp only [hput, hcopy, Nat.reduceEqDiff, Nat.add_left_cancel_iff, Nat.add_right_cancel_iff, Nat.left_eq_add, Nat.add_eq_left, Nat.right_eq_add, Nat.add_eq_right, Nat.reduceAdd, Nat.add_zero, Nat.succ_ne_self, Nat.one_ne_zero, Nat.zero_ne_one, eq_self, and_self, and_true, true_and, and_false, false_and, if_true, if_false, reduceIte, Int.reduceToNat, Int.toNat_natCast, hw]); exact rfl) ?_
  refine w_iconst (v := 1) f233_8 (by decide) ?_
  refine w_isubn f233_9 (by omega) ?_
  refine w_cS f233_10 (Or.inl rfl) (Nat.le_of_ble_eq_true rfl) rfl rfl ⟨Nat.le_of_ble_eq_true rfl, rfl, Nat.le_of_ble_eq_true rfl⟩ (en148 _ _ _) (s148) (pv148 _ _) ?_
  refine w_ifb_eq (t := 29) f233_13 (by decide) (fun c1 => ?_) (fun c1 => ?_)
  · refine w_iconst (v := -1) f233_29 (by decide) ?_
    refine w_iret f233_30 rfl ?_
    first | (unfold ltr; rw [if_pos (by omega)]; done) | (unfold ltr; rw [if_neg (by omega)]; done)
  · refine w_aloadn f233_16 rfl (by omega) ?_
    refine w_getR f233_17 (by assumption) rfl (by omega) ?_
    refine w_iloadn f233_20 rfl ?_
    refine w_iconst (v := 1) f233_21 (by decide) ?_
    refine w_iaddn f233_22 (by omega) ?_
    refine w_iloadn f233_23 rfl ?_
    refine w_iaddn f233_24 (by omega) ?_
    refine w_iald f233_25 (by assumption) (by omega) (by (try simp only [hput, hcopy, Nat.reduceEqDiff, Nat.add_left_cancel_iff, Nat.add_right_cancel_iff, Nat.left_eq_add, Nat.add_eq_left, Nat.right_eq_add, Nat.add_eq_right, Nat.reduceAdd, Nat.add_zero, Nat.succ_ne_self, Nat.one_ne_zero, Nat.zero_ne_one, eq_self, and_self, and_true, true_and, and_false, false_and, if_true, if_false, reduceIte, Int.reduceToNat, Int.toNat_natCast, hw]); exact rfl) ?_
    refine w_goto (t := 30) f233_26 (by decide) ?_
    refine w_iret f233_30 rfl ?_
    first | (unfold ltr; rw [if_pos (by omega)]; done) | (unfold ltr; rw [if_neg (by omega)]; done)
theorem s234t {i q : Int} (hw : h 269 = w) (hN : 0 ≤ w 0 ∧ w 0 ≤ 24) (hM : w 0 ≤ 10) (hn : 0 ≤ w (357 + 7 * i).toNat ∧ w (357 + 7 * i).toNat ≤ 6) (hi : 0 ≤ i ∧ i < w 0) : ev 234 0 [AR 268, AI i, AI q] [] (KS r d, h, R) = some (.inl (AI (ltr w (357 + 7 * i) q)), (KS r d, hput h 268 6 0, R)) := by
  refine Rn.eq ?_
  have k0 := @kd_268 r d
  have k1 := @kd_269 r d
  refine w_aloadn f234_0 rfl (by omega) ?_
  refine w_iconst (v := 0) f234_1 (by decide) ?_
  refine w_putI f234_2 (by assumption) ?_
  refine w_aloadn f234_5 rfl (by omega) ?_
  refine w_iloadn f234_6 rfl ?_
  refine w_iconst (v := 0) f234_7 (by decide) ?_
  refine w_cV f234_8 (Or.inl rfl) rfl (by omega) (okd_of (by assumption)) rfl ⟨Nat.le_of_ble_eq_true rfl, rfl, Nat.le_of_ble_eq_true rfl⟩ (en232 _ _ _) (s232t (w := w) (nj := 0) (by repeat (first | exact hw | refine setv_w ?_ (by decide) | refine hput_w ?_ (by decide))) rfl (by decide) (by omega) hi) (pv232 _ _) ?_
  refine w_if_eq (t := 18) f234_11 (by decide) (fun c1 => ?_) (fun c1 => by omega)
  refine w_aloadn f234_18 rfl (by omega) ?_
  refine w_sipush (v := 357) f234_19 (by decide) ?_
  refine w_bipush (v := 7) f234_22 (by decide) ?_
  refine w_iloadn f234_24 rfl ?_
  refine w_imuln f234_25 (by omega) ?_
  refine w_iaddn f234_26 (by omega) ?_
  refine w_iloadn f234_27 rfl ?_
  refine w_cV f234_28 (Or.inl rfl) rfl (by omega) (okd_of (by assumption)) rfl ⟨Nat.le_of_ble_eq_true rfl, rfl, Nat.le_of_ble_eq_true rfl⟩ (en233 _ _ _) (s233 (w := w) (by repeat (first | exact hw | refine setv_w ?_ (by decide) | refine hput_w ?_ (by decide))) (by omega) hn) (pv233 _ _) ?_
  refine w_iret f234_31 rfl ?_
  rfl
theorem s234f {i q : Int} (hw : h 269 = w) (hN : 0 ≤ w 0 ∧ w 0 ≤ 24) (hi : ¬ (0 ≤ i ∧ i < w 0)) : ev 234 0 [AR 268, AI i, AI q] [] (KS r d, h, R) = some (.inl (AI 0), (KS r d, hput h 268 6 1, R)) := by
  refine Rn.eq ?_
  have k0 := @kd_268 r d
  refine w_aloadn f234_0 rfl (by omega) ?_
  refine w_iconst (v := 0) f234_1 (by decide) ?_
  refine w_putI f234_2 (by assumption) ?_
  refine w_aloadn f234_5 rfl (by omega) ?_
  refine w_iloadn f234_6 rfl ?_
  refine w_iconst (v := 0) f234_7 (by decide) ?_
  refine w_cV f234_8 (Or.inl rfl) rfl (by omega) (okd_of (by assumption)) rfl ⟨Nat.le_of_ble_eq_true rfl, rfl, Nat.le_of_ble_eq_true rfl⟩ (en232 _ _ _) (s232f (w := w) (nj := 0) (by repeat (first | exact hw | refine setv_w ?_ (by decide) | refine hput_w ?_ (by decide))) rfl (by decide) (by omega) hi) (pv232 _ _) ?_
  refine w_if_eq (t := 18) f234_11 (by decide) (fun c1 => by omega) (fun c1 => ?_)
  refine w_iconst (v := 0) f234_14 (by decide) ?_
  refine w_goto (t := 31) f234_15 (by decide) ?_
  refine w_iret f234_31 rfl ?_
  rw [hput_ss]
theorem s235t {i q : Int} (hw : h 269 = w) (hN : 0 ≤ w 1 ∧ w 1 ≤ 24) (hM : w 1 ≤ 8) (hn : 0 ≤ w (427 + 7 * i).toNat ∧ w (427 + 7 * i).toNat ≤ 6) (hi : 0 ≤ i ∧ i < w 1) : ev 235 0 [AR 268, AI i, AI q] [] (KS r d, h, R) = some (.inl (AI (ltr w (427 + 7 * i) q)), (KS r d, hput h 268 6 0, R)) := by
  refine Rn.eq ?_
  have k0 := @kd_268 r d
  have k1 := @kd_269 r d
  refine w_aloadn f235_0 rfl (by omega) ?_
  refine w_iconst (v := 0) f235_1 (by decide) ?_
  refine w_putI f235_2 (by assumption) ?_
  refine w_aloadn f235_5 rfl (by omega) ?_
  refine w_iloadn f235_6 rfl ?_
  refine w_iconst (v := 1) f235_7 (by decide) ?_
  refine w_cV f235_8 (Or.inl rfl) rfl (by omega) (okd_of (by assumption)) rfl ⟨Nat.le_of_ble_eq_true rfl, rfl, Nat.le_of_ble_eq_true rfl⟩ (en232 _ _ _) (s232t (w := w) (nj := 1) (by repeat (first | exact hw | refine setv_w ?_ (by decide) | refine hput_w ?_ (by decide))) rfl (by decide) (by omega) hi) (pv232 _ _) ?_
  refine w_if_eq (t := 18) f235_11 (by decide) (fun c1 => ?_) (fun c1 => by omega)
  refine w_aloadn f235_18 rfl (by omega) ?_
  refine w_sipush (v := 427) f235_19 (by decide) ?_
  refine w_bipush (v := 7) f235_22 (by decide) ?_
  refine w_iloadn f235_24 rfl ?_
  refine w_imuln f235_25 (by omega) ?_
  refine w_iaddn f235_26 (by omega) ?_
  refine w_iloadn f235_27 rfl ?_
  refine w_cV f235_28 (Or.inl rfl) rfl (by omega) (okd_of (by assumption)) rfl ⟨Nat.le_of_ble_eq_true rfl, rfl, Nat.le_of_ble_eq_true rfl⟩ (en233 _ _ _) (s233 (w := w) (by repeat (first | exact hw | refine setv_w ?_ (by decide) | refine hput_w ?_ (by decide))) (by omega) hn) (pv233 _ _) ?_
  refine w_iret f235_31 rfl ?_
  rfl
theorem s235f {i q : Int} (hw : h 269 = w) (hN : 0 ≤ w 1 ∧ w 1 ≤ 24) (hi : ¬ (0 ≤ i ∧ i < w 1)) : ev 235 0 [AR 268, AI i, AI q] [] (KS r d, h, R) = some (.inl (AI 0), (KS r d, hput h 268 6 1, R)) := by
  refine Rn.eq ?_
  have k0 := @kd_268 r d
  refine w_aloadn f235_0 rfl (by omega) ?_
  refine w_iconst (v := 0) f235_1 (by decide) ?_
  refine w_putI f235_2 (by assumption) ?_
  refine w_aloadn f235_5 rfl (by omega) ?_
  refine w_iloadn f235_6 rfl ?_
  refine w_iconst (v := 1) f235_7 (by decide) ?_
  refine w_cV f235_8 (Or.inl rfl) rfl (by omega) (okd_of (by assumption)) rfl ⟨Nat.le_of_ble_eq_true rfl, rfl, Nat.le_of_ble_eq_true rfl⟩ (en232 _ _ _) (s232f (w := w) (nj := 1) (by repeat (first | exact hw | refine setv_w ?_ (by decide) | refine hput_w ?_ (by decide))) rfl (by decide) (by omega) hi) (pv232 _ _) ?_
  refine w_if_eq (t := 18) f235_11 (by decide) (fun c1 => by omega) (fun c1 => ?_)
  refine w_iconst (v := 0) f235_14 (by decide) ?_
  refine w_goto (t := 31) f235_15 (by decide) ?_
  refine w_iret f235_31 rfl ?_
  rw [hput_ss]
theorem s236t {i q : Int} (hw : h 269 = w) (hN : 0 ≤ w 2 ∧ w 2 ≤ 24) (hM : w 2 ≤ 3) (hn : 0 ≤ w (483 + 7 * i).toNat ∧ w (483 + 7 * i).toNat ≤ 6) (hi : 0 ≤ i ∧ i < w 2) : ev 236 0 [AR 268, AI i, AI q] [] (KS r d, h, R) = some (.inl (AI (ltr w (483 + 7 * i) q)), (KS r d, hput h 268 6 0, R)) := by
  refine Rn.eq ?_
  have k0 := @kd_268 r d
  have k1 := @kd_269 r d
  refine w_aloadn f236_0 rfl (by omega) ?_
  refine w_iconst (v := 0) f236_1 (by decide) ?_
  refine w_putI f236_2 (by assumption) ?_
  refine w_aloadn f236_5 rfl (by omega) ?_
  refine w_iloadn f236_6 rfl ?_
  refine w_iconst (v := 2) f236_7 (by decide) ?_
  refine w_cV f236_8 (Or.inl rfl) rfl (by omega) (okd_of (by assumption)) rfl ⟨Nat.le_of_ble_eq_true rfl, rfl, Nat.le_of_ble_eq_true rfl⟩ (en232 _ _ _) (s232t (w := w) (nj := 2) (by repeat (first | exact hw | refine setv_w ?_ (by decide) | refine hput_w ?_ (by decide))) rfl (by decide) (by omega) hi) (pv232 _ _) ?_
  refine w_if_eq (t := 18) f236_11 (by decide) (fun c1 => ?_) (fun c1 => by omega)
  refine w_aloadn f236_18 rfl (by omega) ?_
  refine w_sipush (v := 483) f236_19 (by decide) ?_
  refine w_bipush (v := 7) f236_22 (by decide) ?_
  refine w_iloadn f236_24 rfl ?_
  refine w_imuln f236_25 (by omega) ?_
  refine w_iaddn f236_26 (by omega) ?_
  refine w_iloadn f236_27 rfl ?_
  refine w_cV f236_28 (Or.inl rfl) rfl (by omega) (okd_of (by assumption)) rfl ⟨Nat.le_of_ble_eq_true rfl, rfl, Nat.le_of_ble_eq_true rfl⟩ (en233 _ _ _) (s233 (w := w) (by repeat (first | exact hw | refine setv_w ?_ (by decide) | refine hput_w ?_ (by decide))) (by omega) hn) (pv233 _ _) ?_
  refine w_iret f236_31 rfl ?_
  rfl
theorem s236f {i q : Int} (hw : h 269 = w) (hN : 0 ≤ w 2 ∧ w 2 ≤ 24) (hi : ¬ (0 ≤ i ∧ i < w 2)) : ev 236 0 [AR 268, AI i, AI q] [] (KS r d, h, R) = some (.inl (AI 0), (KS r d, hput h 268 6 1, R)) := by
  refine Rn.eq ?_
  have k0 := @kd_268 r d
  refine w_aloadn f236_0 rfl (by omega) ?_
  refine w_iconst (v := 0) f236_1 (by decide) ?_
  refine w_putI f236_2 (by assumption) ?_
  refine w_aloadn f236_5 rfl (by omega) ?_
  refine w_iloadn f236_6 rfl ?_
  refine w_iconst (v := 2) f236_7 (by decide) ?_
  refine w_cV f236_8 (Or.inl rfl) rfl (by omega) (okd_of (by assumption)) rfl ⟨Nat.le_of_ble_eq_true rfl, rfl, Nat.le_of_ble_eq_true rfl⟩ (en232 _ _ _) (s232f (w := w) (nj := 2) (by repeat (first | exact hw | refine setv_w ?_ (by decide) | refine hput_w ?_ (by decide))) rfl (by decide) (by omega) hi) (pv232 _ _) ?_
  refine w_if_eq (t := 18) f236_11 (by decide) (fun c1 => by omega) (fun c1 => ?_)
  refine w_iconst (v := 0) f236_14 (by decide) ?_
  refine w_goto (t := 31) f236_15 (by decide) ?_
  refine w_iret f236_31 rfl ?_
  rw [hput_ss]
theorem s237t {t : Int} (hw : h 269 = w) (hN : 0 ≤ w 3 ∧ w 3 ≤ 24) (hi : 0 ≤ t ∧ t < w 3) : ev 237 0 [AR 268, AI t] [] (KS r d, h, R) = some (.inl (AI (tr w t 0)), (KS r d, hput h 268 6 0, R)) := by
  refine Rn.eq ?_
  have k0 := @kd_268 r d
  have k1 := @kd_269 r d
  refine w_aloadn f237_0 rfl (by omega) ?_
  refine w_iconst (v := 0) f237_1 (by decide) ?_
  refine w_putI f237_2 (by assumption) ?_
  refine w_aloadn f237_5 rfl (by omega) ?_
  refine w_iloadn f237_6 rfl ?_
  refine w_iconst (v := 3) f237_7 (by decide) ?_
  refine w_cV f237_8 (Or.inl rfl) rfl (by omega) (okd_of (by assumption)) rfl ⟨Nat.le_of_ble_eq_true rfl, rfl, Nat.le_of_ble_eq_true rfl⟩ (en232 _ _ _) (s232t (w := w) (nj := 3) (by repeat (first | exact hw | refine setv_w ?_ (by decide) | refine hput_w ?_ (by decide))) rfl (by decide) (by omega) hi) (pv232 _ _) ?_
  refine w_if_eq (t := 18) f237_11 (by decide) (fun c1 => ?_) (fun c1 => by omega)
  refine w_aloadn f237_18 rfl (by omega) ?_
  refine w_iloadn f237_19 rfl ?_
  refine w_iconst (v := 0) f237_20 (by decide) ?_
  refine w_cV f237_21 (Or.inl rfl) rfl (by omega) (okd_of (by assumption)) rfl ⟨Nat.le_of_ble_eq_true rfl, rfl, Nat.le_of_ble_eq_true rfl⟩ (en154 _ _ _) (s154w (w := w) (by repeat (first | exact hw | refine setv_w ?_ (by decide) | refine hput_w ?_ (by decide))) (by omega) (by decide)) (pv154 _ _) ?_
  refine w_iret f237_24 rfl ?_
  rfl
theorem s237f {t : Int} (hw : h 269 = w) (hN : 0 ≤ w 3 ∧ w 3 ≤ 24) (hi : ¬ (0 ≤ t ∧ t < w 3)) : ev 237 0 [AR 268, AI t] [] (KS r d, h, R) = some (.inl (AI 0), (KS r d, hput h 268 6 1, R)) := by
  refine Rn.eq ?_
  have k0 := @kd_268 r d
  refine w_aloadn f237_0 rfl (by omega) ?_
  refine w_iconst (v := 0) f237_1 (by decide) ?_
  refine w_putI f237_2 (by assumption) ?_
  refine w_aloadn f237_5 rfl (by omega) ?_
  refine w_iloadn f237_6 rfl ?_
  refine w_iconst (v := 3) f237_7 (by decide) ?_
  refine w_cV f237_8 (Or.inl rfl) rfl (by omega) (okd_of (by assumption)) rfl ⟨Nat.le_of_ble_eq_true rfl, rfl, Nat.le_of_ble_eq_true rfl⟩ (en232 _ _ _) (s232f (w := w) (nj := 3) (by repeat (first | exact hw | refine setv_w ?_ (by decide) | refine hput_w ?_ (by decide))) rfl (by decide) (by omega) hi) (pv232 _ _) ?_
  refine w_if_eq (t := 18) f237_11 (by decide) (fun c1 => by omega) (fun c1 => ?_)
  refine w_iconst (v := 0) f237_14 (by decide) ?_
  refine w_goto (t := 24) f237_15 (by decide) ?_
  refine w_iret f237_24 rfl ?_
  rw [hput_ss]
theorem s238t {t : Int} (hw : h 269 = w) (hN : 0 ≤ w 3 ∧ w 3 ≤ 24) (hi : 0 ≤ t ∧ t < w 3) : ev 238 0 [AR 268, AI t] [] (KS r d, h, R) = some (.inl (AI (tr w t 1)), (KS r d, hput h 268 6 0, R)) := by
  refine Rn.eq ?_
  have k0 := @kd_268 r d
  have k1 := @kd_269 r d
  refine w_aloadn f238_0 rfl (by omega) ?_
  refine w_iconst (v := 0) f238_1 (by decide) ?_
  refine w_putI f238_2 (by assumption) ?_
  refine w_aloadn f238_5 rfl (by omega) ?_
  refine w_iloadn f238_6 rfl ?_
  refine w_iconst (v := 3) f238_7 (by decide) ?_
  refine w_cV f238_8 (Or.inl rfl) rfl (by omega) (okd_of (by assumption)) rfl ⟨Nat.le_of_ble_eq_true rfl, rfl, Nat.le_of_ble_eq_true rfl⟩ (en232 _ _ _) (s232t (w := w) (nj := 3) (by repeat (first | exact hw | refine setv_w ?_ (by decide) | refine hput_w ?_ (by decide))) rfl (by decide) (by omega) hi) (pv232 _ _) ?_
  refine w_if_eq (t := 18) f238_11 (by decide) (fun c1 => ?_) (fun c1 => by omega)
  refine w_aloadn f238_18 rfl (by omega) ?_
  refine w_iloadn f238_19 rfl ?_
  refine w_iconst (v := 1) f238_20 (by decide) ?_
  refine w_cV f238_21 (Or.inl rfl) rfl (by omega) (okd_of (by assumption)) rfl ⟨Nat.le_of_ble_eq_true rfl, rfl, Nat.le_of_ble_eq_true rfl⟩ (en154 _ _ _) (s154w (w := w) (by repeat (first | exact hw | refine setv_w ?_ (by decide) | refine hput_w ?_ (by decide))) (by omega) (by decide)) (pv154 _ _) ?_
  refine w_iret f238_24 rfl ?_
  rfl
theorem s238f {t : Int} (hw : h 269 = w) (hN : 0 ≤ w 3 ∧ w 3 ≤ 24) (hi : ¬ (0 ≤ t ∧ t < w 3)) : ev 238 0 [AR 268, AI t] [] (KS r d, h, R) = some (.inl (AI 0), (KS r d, hput h 268 6 1, R)) := by
  refine Rn.eq ?_
  have k0 := @kd_268 r d
  refine w_aloadn f238_0 rfl (by omega) ?_
  refine w_iconst (v := 0) f238_1 (by decide) ?_
  refine w_putI f238_2 (by assumption) ?_
  refine w_aloadn f238_5 rfl (by omega) ?_
  refine w_iloadn f238_6 rfl ?_
  refine w_iconst (v := 3) f238_7 (by decide) ?_
  refine w_cV f238_8 (Or.inl rfl) rfl (by omega) (okd_of (by assumption)) rfl ⟨Nat.le_of_ble_eq_true rfl, rfl, Nat.le_of_ble_eq_true rfl⟩ (en232 _ _ _) (s232f (w := w) (nj := 3) (by repeat (first | exact hw | refine setv_w ?_ (by decide) | refine hput_w ?_ (by decide))) rfl (by decide) (by omega) hi) (pv232 _ _) ?_
  refine w_if_eq (t := 18) f238_11 (by decide) (fun c1 => by omega) (fun c1 => ?_)
  refine w_iconst (v := 0) f238_14 (by decide) ?_
  refine w_goto (t := 24) f238_15 (by decide) ?_
  refine w_iret f238_24 rfl ?_
  rw [hput_ss]
theorem s239t {t : Int} (hw : h 269 = w) (hN : 0 ≤ w 3 ∧ w 3 ≤ 24) (hi : 0 ≤ t ∧ t < w 3) : ev 239 0 [AR 268, AI t] [] (KS r d, h, R) = some (.inl (AI (tr w t 2)), (KS r d, hput h 268 6 0, R)) := by
  refine Rn.eq ?_
  have k0 := @kd_268 r d
  have k1 := @kd_269 r d
  refine w_aloadn f239_0 rfl (by omega) ?_
  refine w_iconst (v := 0) f239_1 (by decide) ?_
  refine w_putI f239_2 (by assumption) ?_
  refine w_aloadn f239_5 rfl (by omega) ?_
  refine w_iloadn f239_6 rfl ?_
  refine w_iconst (v := 3) f239_7 (by decide) ?_
  refine w_cV f239_8 (Or.inl rfl) rfl (by omega) (okd_of (by assumption)) rfl ⟨Nat.le_of_ble_eq_true rfl, rfl, Nat.le_of_ble_eq_true rfl⟩ (en232 _ _ _) (s232t (w := w) (nj := 3) (by repeat (first | exact hw | refine setv_w ?_ (by decide) | refine hput_w ?_ (by decide))) rfl (by decide) (by omega) hi) (pv232 _ _) ?_
  refine w_if_eq (t := 18) f239_11 (by decide) (fun c1 => ?_) (fun c1 => by omega)
  refine w_aloadn f239_18 rfl (by omega) ?_
  refine w_iloadn f239_19 rfl ?_
  refine w_iconst (v := 2) f239_20 (by decide) ?_
  refine w_cV f239_21 (Or.inl rfl) rfl (by omega) (okd_of (by assumption)) rfl ⟨Nat.le_of_ble_eq_true rfl, rfl, Nat.le_of_ble_eq_true rfl⟩ (en154 _ _ _) (s154w (w := w) (by repeat (first | exact hw | refine setv_w ?_ (by decide) | refine hput_w ?_ (by decide))) (by omega) (by decide)) (pv154 _ _) ?_
  refine w_iret f239_24 rfl ?_
  rfl
theorem s239f {t : Int} (hw : h 269 = w) (hN : 0 ≤ w 3 ∧ w 3 ≤ 24) (hi : ¬ (0 ≤ t ∧ t < w 3)) : ev 239 0 [AR 268, AI t] [] (KS r d, h, R) = some (.inl (AI 0), (KS r d, hput h 268 6 1, R)) := by
  refine Rn.eq ?_
  have k0 := @kd_268 r d
  refine w_aloadn f239_0 rfl (by omega) ?_
  refine w_iconst (v := 0) f239_1 (by decide) ?_
  refine w_putI f239_2 (by assumption) ?_
  refine w_aloadn f239_5 rfl (by omega) ?_
  refine w_iloadn f239_6 rfl ?_
  refine w_iconst (v := 3) f239_7 (by decide) ?_
  refine w_cV f239_8 (Or.inl rfl) rfl (by omega) (okd_of (by assumption)) rfl ⟨Nat.le_of_ble_eq_true rfl, rfl, Nat.le_of_ble_eq_true rfl⟩ (en232 _ _ _) (s232f (w := w) (nj := 3) (by repeat (first | exact hw | refine setv_w ?_ (by decide) | refine hput_w ?_ (by decide))) rfl (by decide) (by omega) hi) (pv232 _ _) ?_
  refine w_if_eq (t := 18) f239_11 (by decide) (fun c1 => by omega) (fun c1 => ?_)
  refine w_iconst (v := 0) f239_14 (by decide) ?_
  refine w_goto (t := 24) f239_15 (by decide) ?_
  refine w_iret f239_24 rfl ?_
  rw [hput_ss]
theorem s240t {t : Int} (hw : h 269 = w) (hN : 0 ≤ w 3 ∧ w 3 ≤ 24) (hM : w 3 ≤ 24) (hi : 0 ≤ t ∧ t < w 3) : ev 240 0 [AR 268, AI t] [] (KS r d, h, R) = some (.inl (AI (w (69 + t).toNat)), (KS r d, hput h 268 6 0, R)) := by
  refine Rn.eq ?_
  have k0 := @kd_268 r d
  have k1 := @kd_269 r d
  refine w_aloadn f240_0 rfl (by omega) ?_
  refine w_iconst (v := 0) f240_1 (by decide) ?_
  refine w_putI f240_2 (by assumption) ?_
  refine w_aloadn f240_5 rfl (by omega) ?_
  refine w_iloadn f240_6 rfl ?_
  refine w_iconst (v := 3) f240_7 (by decide) ?_
  refine w_cV f240_8 (Or.inl rfl) rfl (by omega) (okd_of (by assumption)) rfl ⟨Nat.le_of_ble_eq_true rfl, rfl, Nat.le_of_ble_eq_true rfl⟩ (en232 _ _ _) (s232t (w := w) (nj := 3) (by repeat (first | exact hw | refine setv_w ?_ (by decide) | refine hput_w ?_ (by decide))) rfl (by decide) (by omega) hi) (pv232 _ _) ?_
  refine w_if_eq (t := 18) f240_11 (by decide) (fun c1 => ?_) (fun c1 => by omega)
  refine w_aloadn f240_18 rfl (by omega) ?_
  refine w_getR f240_19 (by assumption) rfl (by omega) ?_
  refine w_bipush (v := 69) f240_22 (by decide) ?_
  refine w_iloadn f240_24 rfl ?_
  refine w_iaddn f240_25 (by omega) ?_
  refine w_iald f240_26 (by assumption) (by omega) (by (try simp only [hput, hcopy, Nat.reduceEqDiff, Nat.add_left_cancel_iff, Nat.add_right_cancel_iff, Nat.left_eq_add, Nat.add_eq_left, Nat.right_eq_add, Nat.add_eq_right, Nat.reduceAdd, Nat.add_zero, Nat.succ_ne_self, Nat.one_ne_zero, Nat.zero_ne_one, eq_self, and_self, and_true, true_and, and_false, false_and, if_true, if_false, reduceIte, Int.reduceToNat, Int.toNat_natCast, hw]); exact rfl) ?_
  refine w_iret f240_27 rfl ?_
  rfl
theorem s240f {t : Int} (hw : h 269 = w) (hN : 0 ≤ w 3 ∧ w 3 ≤ 24) (hi : ¬ (0 ≤ t ∧ t < w 3)) : ev 240 0 [AR 268, AI t] [] (KS r d, h, R) = some (.inl (AI 0), (KS r d, hput h 268 6 1, R)) := by
  refine Rn.eq ?_
  have k0 := @kd_268 r d
  refine w_aloadn f240_0 rfl (by omega) ?_
  refine w_iconst (v := 0) f240_1 (by decide) ?_
  refine w_putI f240_2 (by assumption) ?_
  refine w_aloadn f240_5 rfl (by omega) ?_
  refine w_iloadn f240_6 rfl ?_
  refine w_iconst (v := 3) f240_7 (by decide) ?_
  refine w_cV f240_8 (Or.inl rfl) rfl (by omega) (okd_of (by assumption)) rfl ⟨Nat.le_of_ble_eq_true rfl, rfl, Nat.le_of_ble_eq_true rfl⟩ (en232 _ _ _) (s232f (w := w) (nj := 3) (by repeat (first | exact hw | refine setv_w ?_ (by decide) | refine hput_w ?_ (by decide))) rfl (by decide) (by omega) hi) (pv232 _ _) ?_
  refine w_if_eq (t := 18) f240_11 (by decide) (fun c1 => by omega) (fun c1 => ?_)
  refine w_iconst (v := 0) f240_14 (by decide) ?_
  refine w_goto (t := 27) f240_15 (by decide) ?_
  refine w_iret f240_27 rfl ?_
  rw [hput_ss]
theorem s241t {t : Int} (hw : h 269 = w) (hN : 0 ≤ w 2 ∧ w 2 ≤ 24) (hM : w 2 ≤ 3) (hi : 0 ≤ t ∧ t < w 2) : ev 241 0 [AR 268, AI t] [] (KS r d, h, R) = some (.inl (AI (w (6 + t).toNat)), (KS r d, hput h 268 6 0, R)) := by
  refine Rn.eq ?_
  have k0 := @kd_268 r d
  have k1 := @kd_269 r d
  refine w_aloadn f241_0 rfl (by omega) ?_
  refine w_iconst (v := 0) f241_1 (by decide) ?_
  refine w_putI f241_2 (by assumption) ?_
  refine w_aloadn f241_5 rfl (by omega) ?_
  refine w_iloadn f241_6 rfl ?_
  refine w_iconst (v := 2) f241_7 (by decide) ?_
  refine w_cV f241_8 (Or.inl rfl) rfl (by omega) (okd_of (by assumption)) rfl ⟨Nat.le_of_ble_eq_true rfl, rfl, Nat.le_of_ble_eq_true rfl⟩ (en232 _ _ _) (s232t (w := w) (nj := 2) (by repeat (first | exact hw | refine setv_w ?_ (by decide) | refine hput_w ?_ (by decide))) rfl (by decide) (by omega) hi) (pv232 _ _) ?_
  refine w_if_eq (t := 18) f241_11 (by decide) (fun c1 => ?_) (fun c1 => by omega)
  refine w_aloadn f241_18 rfl (by omega) ?_
  refine w_getR f241_19 (by assumption) rfl (by omega) ?_
  refine w_bipush (v := 6) f241_22 (by decide) ?_
  refine w_iloadn f241_24 rfl ?_
  refine w_iaddn f241_25 (by omega) ?_
  refine w_iald f241_26 (by assumption) (by omega) (by (try simp only [hput, hcopy, Nat.reduceEqDiff, Nat.add_left_cancel_iff, Nat.add_right_cancel_iff, Nat.left_eq_add, Nat.add_eq_left, Nat.right_eq_add, Nat.add_eq_right, Nat.reduceAdd, Nat.add_zero, Nat.succ_ne_self, Nat.one_ne_zero, Nat.zero_ne_one, eq_self, and_self, and_true, true_and, and_false, false_and, if_true, if_false, reduceIte, Int.reduceToNat, Int.toNat_natCast, hw]); exact rfl) ?_
  refine w_iret f241_27 rfl ?_
  rfl
theorem s241f {t : Int} (hw : h 269 = w) (hN : 0 ≤ w 2 ∧ w 2 ≤ 24) (hi : ¬ (0 ≤ t ∧ t < w 2)) : ev 241 0 [AR 268, AI t] [] (KS r d, h, R) = some (.inl (AI 0), (KS r d, hput h 268 6 1, R)) := by
  refine Rn.eq ?_
  have k0 := @kd_268 r d
  refine w_aloadn f241_0 rfl (by omega) ?_
  refine w_iconst (v := 0) f241_1 (by decide) ?_
  refine w_putI f241_2 (by assumption) ?_
  refine w_aloadn f241_5 rfl (by omega) ?_
  refine w_iloadn f241_6 rfl ?_
  refine w_iconst (v := 2) f241_7 (by decide) ?_
  refine w_cV f241_8 (Or.inl rfl) rfl (by omega) (okd_of (by assumption)) rfl ⟨Nat.le_of_ble_eq_true rfl, rfl, Nat.le_of_ble_eq_true rfl⟩ (en232 _ _ _) (s232f (w := w) (nj := 2) (by repeat (first | exact hw | refine setv_w ?_ (by decide) | refine hput_w ?_ (by decide))) rfl (by decide) (by omega) hi) (pv232 _ _) ?_
  refine w_if_eq (t := 18) f241_11 (by decide) (fun c1 => by omega) (fun c1 => ?_)
  refine w_iconst (v := 0) f241_14 (by decide) ?_
  refine w_goto (t := 27) f241_15 (by decide) ?_
  refine w_iret f241_27 rfl ?_
  rw [hput_ss]
theorem s242t {t : Int} (hw : h 269 = w) (hN : 0 ≤ w 2 ∧ w 2 ≤ 24) (hM : w 2 ≤ 3) (hi : 0 ≤ t ∧ t < w 2) : ev 242 0 [AR 268, AI t] [] (KS r d, h, R) = some (.inl (AI (w (9 + t).toNat)), (KS r d, hput h 268 6 0, R)) := by
  refine Rn.eq ?_
  have k0 := @kd_268 r d
  have k1 := @kd_269 r d
  refine w_aloadn f242_0 rfl (by omega) ?_
  refine w_iconst (v := 0) f242_1 (by decide) ?_
  refine w_putI f242_2 (by assumption) ?_
  refine w_aloadn f242_5 rfl (by omega) ?_
  refine w_iloadn f242_6 rfl ?_
  refine w_iconst (v := 2) f242_7 (by decide) ?_
  refine w_cV f242_8 (Or.inl rfl) rfl (by omega) (okd_of (by assumption)) rfl ⟨Nat.le_of_ble_eq_true rfl, rfl, Nat.le_of_ble_eq_true rfl⟩ (en232 _ _ _) (s232t (w := w) (nj := 2) (by repeat (first | exact hw | refine setv_w ?_ (by decide) | refine hput_w ?_ (by decide))) rfl (by decide) (by omega) hi) (pv232 _ _) ?_
  refine w_if_eq (t := 18) f242_11 (by decide) (fun c1 => ?_) (fun c1 => by omega)
  refine w_aloadn f242_18 rfl (by omega) ?_
  refine w_getR f242_19 (by assumption) rfl (by omega) ?_
  refine w_bipush (v := 9) f242_22 (by decide) ?_
  refine w_iloadn f242_24 rfl ?_
  refine w_iaddn f242_25 (by omega) ?_
  refine w_iald f242_26 (by assumption) (by omega) (by (try simp only [hput, hcopy, Nat.reduceEqDiff, Nat.add_left_cancel_iff, Nat.add_right_cancel_iff, Nat.left_eq_add, Nat.add_eq_left, Nat.right_eq_add, Nat.add_eq_right, Nat.reduceAdd, Nat.add_zero, Nat.succ_ne_self, Nat.one_ne_zero, Nat.zero_ne_one, eq_self, and_self, and_true, true_and, and_false, false_and, if_true, if_false, reduceIte, Int.reduceToNat, Int.toNat_natCast, hw]); exact rfl) ?_
  refine w_iret f242_27 rfl ?_
  rfl
theorem s242f {t : Int} (hw : h 269 = w) (hN : 0 ≤ w 2 ∧ w 2 ≤ 24) (hi : ¬ (0 ≤ t ∧ t < w 2)) : ev 242 0 [AR 268, AI t] [] (KS r d, h, R) = some (.inl (AI 0), (KS r d, hput h 268 6 1, R)) := by
  refine Rn.eq ?_
  have k0 := @kd_268 r d
  refine w_aloadn f242_0 rfl (by omega) ?_
  refine w_iconst (v := 0) f242_1 (by decide) ?_
  refine w_putI f242_2 (by assumption) ?_
  refine w_aloadn f242_5 rfl (by omega) ?_
  refine w_iloadn f242_6 rfl ?_
  refine w_iconst (v := 2) f242_7 (by decide) ?_
  refine w_cV f242_8 (Or.inl rfl) rfl (by omega) (okd_of (by assumption)) rfl ⟨Nat.le_of_ble_eq_true rfl, rfl, Nat.le_of_ble_eq_true rfl⟩ (en232 _ _ _) (s232f (w := w) (nj := 2) (by repeat (first | exact hw | refine setv_w ?_ (by decide) | refine hput_w ?_ (by decide))) rfl (by decide) (by omega) hi) (pv232 _ _) ?_
  refine w_if_eq (t := 18) f242_11 (by decide) (fun c1 => by omega) (fun c1 => ?_)
  refine w_iconst (v := 0) f242_14 (by decide) ?_
  refine w_goto (t := 27) f242_15 (by decide) ?_
  refine w_iret f242_27 rfl ?_
  rw [hput_ss]
theorem s251t {t : Int} (hw : h 269 = w) (hN : 0 ≤ w 0 ∧ w 0 ≤ 24) (hM : w 0 ≤ 10) (hi : 0 ≤ t ∧ t < w 0) : ev 251 0 [AR 268, AI t] [] (KS r d, h, R) = some (.inl (AI (w (59 + t).toNat)), (KS r d, hput h 268 6 0, R)) := by
  refine Rn.eq ?_
  have k0 := @kd_268 r d
  have k1 := @kd_269 r d
  refine w_aloadn f251_0 rfl (by omega) ?_
  refine w_iconst (v := 0) f251_1 (by decide) ?_
  refine w_putI f251_2 (by assumption) ?_
  refine w_aloadn f251_5 rfl (by omega) ?_
  refine w_iloadn f251_6 rfl ?_
  refine w_iconst (v := 0) f251_7 (by decide) ?_
  refine w_cV f251_8 (Or.inl rfl) rfl (by omega) (okd_of (by assumption)) rfl ⟨Nat.le_of_ble_eq_true rfl, rfl, Nat.le_of_ble_eq_true rfl⟩ (en232 _ _ _) (s232t (w := w) (nj := 0) (by repeat (first | exact hw | refine setv_w ?_ (by decide) | refine hput_w ?_ (by decide))) rfl (by decide) (by omega) hi) (pv232 _ _) ?_
  refine w_if_eq (t := 18) f251_11 (by decide) (fun c1 => ?_) (fun c1 => by omega)
  refine w_aloadn f251_18 rfl (by omega) ?_
  refine w_getR f251_19 (by assumption) rfl (by omega) ?_
  refine w_bipush (v := 59) f251_22 (by decide) ?_
  refine w_iloadn f251_24 rfl ?_
  refine w_iaddn f251_25 (by omega) ?_
  refine w_iald f251_26 (by assumption) (by omega) (by (try simp only [hput, hcopy, Nat.reduceEqDiff, Nat.add_left_cancel_iff, Nat.add_right_cancel_iff, Nat.left_eq_add, Nat.add_eq_left, Nat.right_eq_add, Nat.add_eq_right, Nat.reduceAdd, Nat.add_zero, Nat.succ_ne_self, Nat.one_ne_zero, Nat.zero_ne_one, eq_self, and_self, and_true, true_and, and_false, false_and, if_true, if_false, reduceIte, Int.reduceToNat, Int.toNat_natCast, hw]); exact rfl) ?_
  refine w_iret f251_27 rfl ?_
  rfl
theorem s251f {t : Int} (hw : h 269 = w) (hN : 0 ≤ w 0 ∧ w 0 ≤ 24) (hi : ¬ (0 ≤ t ∧ t < w 0)) : ev 251 0 [AR 268, AI t] [] (KS r d, h, R) = some (.inl (AI 0), (KS r d, hput h 268 6 1, R)) := by
  refine Rn.eq ?_
  have k0 := @kd_268 r d
  refine w_aloadn f251_0 rfl (by omega) ?_
  refine w_iconst (v := 0) f251_1 (by decide) ?_
  refine w_putI f251_2 (by assumption) ?_
  refine w_aloadn f251_5 rfl (by omega) ?_
  refine w_iloadn f251_6 rfl ?_
  refine w_iconst (v := 0) f251_7 (by decide) ?_
  refine w_cV f251_8 (Or.inl rfl) rfl (by omega) (okd_of (by assumption)) rfl ⟨Nat.le_of_ble_eq_true rfl, rfl, Nat.le_of_ble_eq_true rfl⟩ (en232 _ _ _) (s232f (w := w) (nj := 0) (by repeat (first | exact hw | refine setv_w ?_ (by decide) | refine hput_w ?_ (by decide))) rfl (by decide) (by omega) hi) (pv232 _ _) ?_
  refine w_if_eq (t := 18) f251_11 (by decide) (fun c1 => by omega) (fun c1 => ?_)
  refine w_iconst (v := 0) f251_14 (by decide) ?_
  refine w_goto (t := 27) f251_15 (by decide) ?_
  refine w_iret f251_27 rfl ?_
  rw [hput_ss]
theorem s243t {t : Int} (hw : h 269 = w) (hN : 0 ≤ w 3 ∧ w 3 ≤ 24) (hi : 0 ≤ t ∧ t < w 3) : ev 243 0 [AR 268, AI t] [] (KS r d, h, R) = some (.inl (AI (b2i (tr w t 3 ≠ -1))), (KS r d, hput h 268 6 0, R)) := by
  refine Rn.eq ?_
  have k0 := @kd_268 r d
  have k1 := @kd_269 r d
  refine w_aloadn f243_0 rfl (by omega) ?_
  refine w_iconst (v := 0) f243_1 (by decide) ?_
  refine w_putI f243_2 (by assumption) ?_
  refine w_aloadn f243_5 rfl (by omega) ?_
  refine w_iloadn f243_6 rfl ?_
  refine w_iconst (v := 3) f243_7 (by decide) ?_
  refine w_cV f243_8 (Or.inl rfl) rfl (by omega) (okd_of (by assumption)) rfl ⟨Nat.le_of_ble_eq_true rfl, rfl, Nat.le_of_ble_eq_true rfl⟩ (en232 _ _ _) (s232t (w := w) (nj := 3) (by repeat (first | exact hw | refine setv_w ?_ (by decide) | refine hput_w ?_ (by decide))) rfl (by decide) (by omega) hi) (pv232 _ _) ?_
  refine w_if_ne (t := 28) f243_11 (by decide) (fun c1 => by omega) (fun c1 => ?_)
  refine w_aloadn f243_14 rfl (by omega) ?_
  refine w_iloadn f243_15 rfl ?_
  refine w_iconst (v := 3) f243_16 (by decide) ?_
  refine w_cV f243_17 (Or.inl rfl) rfl (by omega) (okd_of (by assumption)) rfl ⟨Nat.le_of_ble_eq_true rfl, rfl, Nat.le_of_ble_eq_true rfl⟩ (en154 _ _ _) (s154w (w := w) (by repeat (first | exact hw | refine setv_w ?_ (by decide) | refine hput_w ?_ (by decide))) (by omega) (by decide)) (pv154 _ _) ?_
  refine w_iconst (v := -1) f243_20 (by decide) ?_
  refine w_ic_eq (t := 28) f243_21 (by decide) (fun c2 => ?_) (fun c2 => ?_)
  · refine w_iconst (v := 0) f243_28 (by decide) ?_
    refine w_zret f243_29 rfl (by decide) ?_
    first | exact ob_t c2 | exact ob_f (fun z => z c2)
  · refine w_iconst (v := 1) f243_24 (by decide) ?_
    refine w_goto (t := 29) f243_25 (by decide) ?_
    refine w_zret f243_29 rfl (by decide) ?_
    first | exact ob_t c2 | exact ob_f (fun z => z c2)
theorem s243f {t : Int} (hw : h 269 = w) (hN : 0 ≤ w 3 ∧ w 3 ≤ 24) (hi : ¬ (0 ≤ t ∧ t < w 3)) : ev 243 0 [AR 268, AI t] [] (KS r d, h, R) = some (.inl (AI 0), (KS r d, hput h 268 6 1, R)) := by
  refine Rn.eq ?_
  have k0 := @kd_268 r d
  refine w_aloadn f243_0 rfl (by omega) ?_
  refine w_iconst (v := 0) f243_1 (by decide) ?_
  refine w_putI f243_2 (by assumption) ?_
  refine w_aloadn f243_5 rfl (by omega) ?_
  refine w_iloadn f243_6 rfl ?_
  refine w_iconst (v := 3) f243_7 (by decide) ?_
  refine w_cV f243_8 (Or.inl rfl) rfl (by omega) (okd_of (by assumption)) rfl ⟨Nat.le_of_ble_eq_true rfl, rfl, Nat.le_of_ble_eq_true rfl⟩ (en232 _ _ _) (s232f (w := w) (nj := 3) (by repeat (first | exact hw | refine setv_w ?_ (by decide) | refine hput_w ?_ (by decide))) rfl (by decide) (by omega) hi) (pv232 _ _) ?_
  refine w_if_ne (t := 28) f243_11 (by decide) (fun c1 => ?_) (fun c1 => by omega)
  refine w_iconst (v := 0) f243_28 (by decide) ?_
  refine w_zret f243_29 rfl (by decide) ?_
  rw [hput_ss]
theorem s244t {t : Int} (hw : h 269 = w) (hN : 0 ≤ w 3 ∧ w 3 ≤ 24) (hc : WFc w) (hi : 0 ≤ t ∧ t < w 3) : ev 244 0 [AR 268, AI t] [] (KS r d, h, R) = some (.inl (AI (b2i (gdB w t (hereW w) = true))), (KS r d, hput h 268 6 0, R)) := by
  refine Rn.eq ?_
  have k0 := @kd_268 r d
  have k1 := @kd_269 r d
  have h1 := hereW_r hc
  refine w_aloadn f244_0 rfl (by omega) ?_
  refine w_iconst (v := 0) f244_1 (by decide) ?_
  refine w_putI f244_2 (by assumption) ?_
  refine w_aloadn f244_5 rfl (by omega) ?_
  refine w_iloadn f244_6 rfl ?_
  refine w_iconst (v := 3) f244_7 (by decide) ?_
  refine w_cV f244_8 (Or.inl rfl) rfl (by omega) (okd_of (by assumption)) rfl ⟨Nat.le_of_ble_eq_true rfl, rfl, Nat.le_of_ble_eq_true rfl⟩ (en232 _ _ _) (s232t (w := w) (nj := 3) (by repeat (first | exact hw | refine setv_w ?_ (by decide) | refine hput_w ?_ (by decide))) rfl (by decide) (by omega) hi) (pv232 _ _) ?_
  refine w_if_ne (t := 30) f244_11 (by decide) (fun c1 => by omega) (fun c1 => ?_)
  refine w_aloadn f244_14 rfl (by omega) ?_
  refine w_iloadn f244_15 rfl ?_
  refine w_aloadn f244_16 rfl (by omega) ?_
  refine w_cV f244_17 (Or.inl rfl) rfl (by omega) (okd_of (by assumption)) rfl ⟨Nat.le_of_ble_eq_true rfl, rfl, Nat.le_of_ble_eq_true rfl⟩ (en162 _) (s162 (w := w) (by repeat (first | exact hw | refine setv_w ?_ (by decide) | refine hput_w ?_ (by decide))) hc) (pv162 _ _) ?_
  refine w_cV f244_20 (Or.inl rfl) rfl (by omega) (okd_of (by assumption)) rfl ⟨Nat.le_of_ble_eq_true rfl, rfl, Nat.le_of_ble_eq_true rfl⟩ (en172 _ _ _) (s172 (w := w) (by repeat (first | exact hw | refine setv_w ?_ (by decide) | refine hput_w ?_ (by decide))) h1.1 (by omega)) (pv172 _ _) ?_
  refine w_ifb_eq (t := 30) f244_23 (by decide) (fun c2 => ?_) (fun c2 => ?_)
  · refine w_iconst (v := 0) f244_30 (by decide) ?_
    refine w_zret f244_31 rfl (by decide) ?_
    first | exact ob_t c2 | exact ob_f c2
  · refine w_iconst (v := 1) f244_26 (by decide) ?_
    refine w_goto (t := 31) f244_27 (by decide) ?_
    refine w_zret f244_31 rfl (by decide) ?_
    first | exact ob_t c2 | exact ob_f c2
theorem s244f {t : Int} (hw : h 269 = w) (hN : 0 ≤ w 3 ∧ w 3 ≤ 24) (hi : ¬ (0 ≤ t ∧ t < w 3)) : ev 244 0 [AR 268, AI t] [] (KS r d, h, R) = some (.inl (AI 0), (KS r d, hput h 268 6 1, R)) := by
  refine Rn.eq ?_
  have k0 := @kd_268 r d
  refine w_aloadn f244_0 rfl (by omega) ?_
  refine w_iconst (v := 0) f244_1 (by decide) ?_
  refine w_putI f244_2 (by assumption) ?_
  refine w_aloadn f244_5 rfl (by omega) ?_
  refine w_iloadn f244_6 rfl ?_
  refine w_iconst (v := 3) f244_7 (by decide) ?_
  refine w_cV f244_8 (Or.inl rfl) rfl (by omega) (okd_of (by assumption)) rfl ⟨Nat.le_of_ble_eq_true rfl, rfl, Nat.le_of_ble_eq_true rfl⟩ (en232 _ _ _) (s232f (w := w) (nj := 3) (by repeat (first | exact hw | refine setv_w ?_ (by decide) | refine hput_w ?_ (by decide))) rfl (by decide) (by omega) hi) (pv232 _ _) ?_
  refine w_if_ne (t := 30) f244_11 (by decide) (fun c1 => ?_) (fun c1 => by omega)
  refine w_iconst (v := 0) f244_30 (by decide) ?_
  refine w_zret f244_31 rfl (by decide) ?_
  rw [hput_ss]
theorem s155w {t j : Int} (hw : h 269 = w) (h1 : 0 ≤ t ∧ t < 12) (h2 : 0 ≤ j ∧ j < 4) : ev 155 0 [AR 268, AI t, AI j] [] (KS r d, h, R) = some (.inl (AI (iv w t j)), (KS r d, h, R)) := by
  subst hw
  exact s155 h1 h2
theorem s245t {t : Int} (hw : h 269 = w) (hN : 0 ≤ w 4 ∧ w 4 ≤ 24) (hM : w 4 ≤ 12) (hi : 0 ≤ t ∧ t < w 4) : ev 245 0 [AR 268, AI t] [] (KS r d, h, R) = some (.inl (AI (iv w t 0)), (KS r d, hput h 268 6 0, R)) := by
  refine Rn.eq ?_
  have k0 := @kd_268 r d
  have k1 := @kd_269 r d
  refine w_aloadn f245_0 rfl (by omega) ?_
  refine w_iconst (v := 0) f245_1 (by decide) ?_
  refine w_putI f245_2 (by assumption) ?_
  refine w_aloadn f245_5 rfl (by omega) ?_
  refine w_iloadn f245_6 rfl ?_
  refine w_iconst (v := 4) f245_7 (by decide) ?_
  refine w_cV f245_8 (Or.inl rfl) rfl (by omega) (okd_of (by assumption)) rfl ⟨Nat.le_of_ble_eq_true rfl, rfl, Nat.le_of_ble_eq_true rfl⟩ (en232 _ _ _) (s232t (w := w) (nj := 4) (by repeat (first | exact hw | refine setv_w ?_ (by decide) | refine hput_w ?_ (by decide))) rfl (by decide) (by omega) hi) (pv232 _ _) ?_
  refine w_if_eq (t := 18) f245_11 (by decide) (fun c1 => ?_) (fun c1 => by omega)
  refine w_aloadn f245_18 rfl (by omega) ?_
  refine w_iloadn f245_19 rfl ?_
  refine w_iconst (v := 0) f245_20 (by decide) ?_
  refine w_cV f245_21 (Or.inl rfl) rfl (by omega) (okd_of (by assumption)) rfl ⟨Nat.le_of_ble_eq_true rfl, rfl, Nat.le_of_ble_eq_true rfl⟩ (en155 _ _ _) (s155w (w := w) (by repeat (first | exact hw | refine setv_w ?_ (by decide) | refine hput_w ?_ (by decide))) (by omega) (by decide)) (pv155 _ _) ?_
  refine w_iret f245_24 rfl ?_
  rfl
theorem s245f {t : Int} (hw : h 269 = w) (hN : 0 ≤ w 4 ∧ w 4 ≤ 24) (hi : ¬ (0 ≤ t ∧ t < w 4)) : ev 245 0 [AR 268, AI t] [] (KS r d, h, R) = some (.inl (AI 0), (KS r d, hput h 268 6 1, R)) := by
  refine Rn.eq ?_
  have k0 := @kd_268 r d
  refine w_aloadn f245_0 rfl (by omega) ?_
  refine w_iconst (v := 0) f245_1 (by decide) ?_
  refine w_putI f245_2 (by assumption) ?_
  refine w_aloadn f245_5 rfl (by omega) ?_
  refine w_iloadn f245_6 rfl ?_
  refine w_iconst (v := 4) f245_7 (by decide) ?_
  refine w_cV f245_8 (Or.inl rfl) rfl (by omega) (okd_of (by assumption)) rfl ⟨Nat.le_of_ble_eq_true rfl, rfl, Nat.le_of_ble_eq_true rfl⟩ (en232 _ _ _) (s232f (w := w) (nj := 4) (by repeat (first | exact hw | refine setv_w ?_ (by decide) | refine hput_w ?_ (by decide))) rfl (by decide) (by omega) hi) (pv232 _ _) ?_
  refine w_if_eq (t := 18) f245_11 (by decide) (fun c1 => by omega) (fun c1 => ?_)
  refine w_iconst (v := 0) f245_14 (by decide) ?_
  refine w_goto (t := 24) f245_15 (by decide) ?_
  refine w_iret f245_24 rfl ?_
  rw [hput_ss]
theorem s246t {t : Int} (hw : h 269 = w) (hN : 0 ≤ w 4 ∧ w 4 ≤ 24) (hM : w 4 ≤ 12) (hc : WFc w) (hi : 0 ≤ t ∧ t < w 4) : ev 246 0 [AR 268, AI t] [] (KS r d, h, R) = some (.inl (AI (b2i (cmpB (vIn (hereW w) (iv w t 1)) (iv w t 2) (iv w t 3) = true))), (KS r d, hput h 268 6 0, R)) := by
  refine Rn.eq ?_
  have k0 := @kd_268 r d
  have k1 := @kd_269 r d
  have h1 := hereW_r hc
  refine w_aloadn f246_0 rfl (by omega) ?_
  refine w_iconst (v := 0) f246_1 (by decide) ?_
  refine w_putI f246_2 (by assumption) ?_
  refine w_aloadn f246_5 rfl (by omega) ?_
  refine w_iloadn f246_6 rfl ?_
  refine w_iconst (v := 4) f246_7 (by decide) ?_
  refine w_cV f246_8 (Or.inl rfl) rfl (by omega) (okd_of (by assumption)) rfl ⟨Nat.le_of_ble_eq_true rfl, rfl, Nat.le_of_ble_eq_true rfl⟩ (en232 _ _ _) (s232t (w := w) (nj := 4) (by repeat (first | exact hw | refine setv_w ?_ (by decide) | refine hput_w ?_ (by decide))) rfl (by decide) (by omega) hi) (pv232 _ _) ?_
  refine w_if_ne (t := 30) f246_11 (by decide) (fun c1 => by omega) (fun c1 => ?_)
  refine w_aloadn f246_14 rfl (by omega) ?_
  refine w_iloadn f246_15 rfl ?_
  refine w_aloadn f246_16 rfl (by omega) ?_
  refine w_cV f246_17 (Or.inl rfl) rfl (by omega) (okd_of (by assumption)) rfl ⟨Nat.le_of_ble_eq_true rfl, rfl, Nat.le_of_ble_eq_true rfl⟩ (en162 _) (s162 (w := w) (by repeat (first | exact hw | refine setv_w ?_ (by decide) | refine hput_w ?_ (by decide))) hc) (pv162 _ _) ?_
  refine w_cV f246_20 (Or.inl rfl) rfl (by omega) (okd_of (by assumption)) rfl ⟨Nat.le_of_ble_eq_true rfl, rfl, Nat.le_of_ble_eq_true rfl⟩ (en169 _ _ _) (s169 (w := w) (by repeat (first | exact hw | refine setv_w ?_ (by decide) | refine hput_w ?_ (by decide))) h1.1 (by omega)) (pv169 _ _) ?_
  refine w_ifb_eq (t := 30) f246_23 (by decide) (fun c2 => ?_) (fun c2 => ?_)
  · refine w_iconst (v := 0) f246_30 (by decide) ?_
    refine w_zret f246_31 rfl (by decide) ?_
    first | exact ob_t c2 | exact ob_f c2
  · refine w_iconst (v := 1) f246_26 (by decide) ?_
    refine w_goto (t := 31) f246_27 (by decide) ?_
    refine w_zret f246_31 rfl (by decide) ?_
    first | exact ob_t c2 | exact ob_f c2
theorem s246f {t : Int} (hw : h 269 = w) (hN : 0 ≤ w 4 ∧ w 4 ≤ 24) (hi : ¬ (0 ≤ t ∧ t < w 4)) : ev 246 0 [AR 268, AI t] [] (KS r d, h, R) = some (.inl (AI 0), (KS r d, hput h 268 6 1, R)) := by
  refine Rn.eq ?_
  have k0 := @kd_268 r d
  refine w_aloadn f246_0 rfl (by omega) ?_
  refine w_iconst (v := 0) f246_1 (by decide) ?_
  refine w_putI f246_2 (by assumption) ?_
  refine w_aloadn f246_5 rfl (by omega) ?_
  refine w_iloadn f246_6 rfl ?_
  refine w_iconst (v := 4) f246_7 (by decide) ?_
  refine w_cV f246_8 (Or.inl rfl) rfl (by omega) (okd_of (by assumption)) rfl ⟨Nat.le_of_ble_eq_true rfl, rfl, Nat.le_of_ble_eq_true rfl⟩ (en232 _ _ _) (s232f (w := w) (nj := 4) (by repeat (first | exact hw | refine setv_w ?_ (by decide) | refine hput_w ?_ (by decide))) rfl (by decide) (by omega) hi) (pv232 _ _) ?_
  refine w_if_ne (t := 30) f246_11 (by decide) (fun c1 => ?_) (fun c1 => by omega)
  refine w_iconst (v := 0) f246_30 (by decide) ?_
  refine w_zret f246_31 rfl (by decide) ?_
  rw [hput_ss]
theorem s247t {e : Int} (hw : h 269 = w) (hE : 0 ≤ w 1 ∧ w 1 ≤ 8) (hf : WFt w) (hc : WFc w) (hi : 0 ≤ e ∧ e < w 1) : Rn (ev 247 0 [AR 268, AI e] [] (KS r d, h, R)) (QR r d R h 0 (AI ((vdt w (hereW w) e).1))) := by
  have k0 := @kd_268 r d
  have h1 := hereW_r hc
  have hv := vdt_r (e := e) hf h1
  have e9 : ∀ h a b, setv h a b 268 8 = b := fun h a b => (hput_j (by decide)).trans hput_s
  have e7 : ∀ h a b, setv h a b 268 7 = a := fun h a b => hput_s
  refine w_aloadn f247_0 rfl (by omega) ?_
  refine w_iconst (v := 0) f247_1 (by decide) ?_
  refine w_putI f247_2 (by assumption) ?_
  refine w_aloadn f247_5 rfl (by omega) ?_
  refine w_iloadn f247_6 rfl ?_
  refine w_iconst (v := 1) f247_7 (by decide) ?_
  refine w_cV f247_8 (Or.inl rfl) rfl (by omega) (okd_of (by assumption)) rfl ⟨Nat.le_of_ble_eq_true rfl, rfl, Nat.le_of_ble_eq_true rfl⟩ (en232 _ _ _) (s232t (w := w) (nj := 1) (by repeat (first | exact hw | refine setv_w ?_ (by decide) | refine hput_w ?_ (by decide))) rfl (by decide) (by omega) hi) (pv232 _ _) ?_
  refine w_if_eq (t := 18) f247_11 (by decide) (fun c1 => ?_) (fun c1 => by omega)
  refine w_aloadn f247_18 rfl (by omega) ?_
  refine w_aloadn f247_19 rfl (by omega) ?_
  refine w_cV f247_20 (Or.inl rfl) rfl (by omega) (okd_of (by assumption)) rfl ⟨Nat.le_of_ble_eq_true rfl, rfl, Nat.le_of_ble_eq_true rfl⟩ (en162 _) (s162 (w := w) (by repeat (first | exact hw | refine setv_w ?_ (by decide) | refine hput_w ?_ (by decide))) hc) (pv162 _ _) ?_
  refine w_iloadn f247_23 rfl ?_
  refine w_cV f247_24 (Or.inl rfl) rfl (by omega) (okd_of (by assumption)) rfl ⟨Nat.le_of_ble_eq_true rfl, rfl, Nat.le_of_ble_eq_true rfl⟩ (en175 _ _ _) (s175 (w := w) (by repeat (first | exact hw | refine setv_w ?_ (by decide) | refine hput_w ?_ (by decide))) hf h1) (pv175 _ _) ?_
  refine w_iret f247_27 rfl ?_
  exact ⟨_, setv_S, rfl⟩
theorem s247f {e : Int} (hw : h 269 = w) (hE : 0 ≤ w 1 ∧ w 1 ≤ 8) (hi : ¬ (0 ≤ e ∧ e < w 1)) : ev 247 0 [AR 268, AI e] [] (KS r d, h, R) = some (.inl (AI 0), (KS r d, hput h 268 6 1, R)) := by
  refine Rn.eq ?_
  have k0 := @kd_268 r d
  refine w_aloadn f247_0 rfl (by omega) ?_
  refine w_iconst (v := 0) f247_1 (by decide) ?_
  refine w_putI f247_2 (by assumption) ?_
  refine w_aloadn f247_5 rfl (by omega) ?_
  refine w_iloadn f247_6 rfl ?_
  refine w_iconst (v := 1) f247_7 (by decide) ?_
  refine w_cV f247_8 (Or.inl rfl) rfl (by omega) (okd_of (by assumption)) rfl ⟨Nat.le_of_ble_eq_true rfl, rfl, Nat.le_of_ble_eq_true rfl⟩ (en232 _ _ _) (s232f (w := w) (nj := 1) (by repeat (first | exact hw | refine setv_w ?_ (by decide) | refine hput_w ?_ (by decide))) rfl (by decide) (by omega) hi) (pv232 _ _) ?_
  refine w_if_eq (t := 18) f247_11 (by decide) (fun c1 => by omega) (fun c1 => ?_)
  refine w_iconst (v := 0) f247_14 (by decide) ?_
  refine w_goto (t := 27) f247_15 (by decide) ?_
  refine w_iret f247_27 rfl ?_
  rw [hput_ss]
theorem s248t {e : Int} (hw : h 269 = w) (hE : 0 ≤ w 1 ∧ w 1 ≤ 8) (hf : WFt w) (hc : WFc w) (hi : 0 ≤ e ∧ e < w 1) : Rn (ev 248 0 [AR 268, AI e, AU] [] (KS r d, h, R)) (QR r d R h 0 (AI ((vdt w (hereW w) e).2.1))) := by
  have k0 := @kd_268 r d
  have h1 := hereW_r hc
  have hv := vdt_r (e := e) hf h1
  have e9 : ∀ h a b, setv h a b 268 8 = b := fun h a b => (hput_j (by decide)).trans hput_s
  have e7 : ∀ h a b, setv h a b 268 7 = a := fun h a b => hput_s
  refine w_aloadn f248_0 rfl (by omega) ?_
  refine w_iconst (v := 0) f248_1 (by decide) ?_
  refine w_putI f248_2 (by assumption) ?_
  refine w_aloadn f248_5 rfl (by omega) ?_
  refine w_iloadn f248_6 rfl ?_
  refine w_iconst (v := 1) f248_7 (by decide) ?_
  refine w_cV f248_8 (Or.inl rfl) rfl (by omega) (okd_of (by assumption)) rfl ⟨Nat.le_of_ble_eq_true rfl, rfl, Nat.le_of_ble_eq_true rfl⟩ (en232 _ _ _) (s232t (w := w) (nj := 1) (by repeat (first | exact hw | refine setv_w ?_ (by decide) | refine hput_w ?_ (by decide))) rfl (by decide) (by omega) hi) (pv232 _ _) ?_
  refine w_if_eq (t := 16) f248_11 (by decide) (fun c1 => ?_) (fun c1 => by omega)
  refine w_aloadn f248_16 rfl (by omega) ?_
  refine w_aloadn f248_17 rfl (by omega) ?_
  refine w_cV f248_18 (Or.inl rfl) rfl (by omega) (okd_of (by assumption)) rfl ⟨Nat.le_of_ble_eq_true rfl, rfl, Nat.le_of_ble_eq_true rfl⟩ (en162 _) (s162 (w := w) (by repeat (first | exact hw | refine setv_w ?_ (by decide) | refine hput_w ?_ (by decide))) hc) (pv162 _ _) ?_
  refine w_iloadn f248_21 rfl ?_
  refine w_cV f248_22 (Or.inl rfl) rfl (by omega) (okd_of (by assumption)) rfl ⟨Nat.le_of_ble_eq_true rfl, rfl, Nat.le_of_ble_eq_true rfl⟩ (en175 _ _ _) (s175 (w := w) (by repeat (first | exact hw | refine setv_w ?_ (by decide) | refine hput_w ?_ (by decide))) hf h1) (pv175 _ _) ?_
  refine w_istoren f248_25 (Nat.le_of_ble_eq_true rfl) (sto_3_2 rfl) ?_
  refine w_aloadn f248_26 rfl (by omega) ?_
  refine w_getI f248_27 (by decide) (by assumption) (by (try simp only [hput, hcopy, Nat.reduceEqDiff, Nat.add_left_cancel_iff, Nat.add_right_cancel_iff, Nat.left_eq_add, Nat.add_eq_left, Nat.right_eq_add, Nat.add_eq_right, Nat.reduceAdd, Nat.add_zero, Nat.succ_ne_self, Nat.one_ne_zero, Nat.zero_ne_one, eq_self, and_self, and_true, true_and, and_false, false_and, if_true, if_false, reduceIte, Int.reduceToNat, Int.toNat_natCast, e9, e7]); exact rfl) ?_
  refine w_iret f248_30 rfl ?_
  exact ⟨_, setv_S, rfl⟩
theorem s248f {e : Int} (hw : h 269 = w) (hE : 0 ≤ w 1 ∧ w 1 ≤ 8) (hi : ¬ (0 ≤ e ∧ e < w 1)) : ev 248 0 [AR 268, AI e, AU] [] (KS r d, h, R) = some (.inl (AI 0), (KS r d, hput h 268 6 1, R)) := by
  refine Rn.eq ?_
  have k0 := @kd_268 r d
  refine w_aloadn f248_0 rfl (by omega) ?_
  refine w_iconst (v := 0) f248_1 (by decide) ?_
  refine w_putI f248_2 (by assumption) ?_
  refine w_aloadn f248_5 rfl (by omega) ?_
  refine w_iloadn f248_6 rfl ?_
  refine w_iconst (v := 1) f248_7 (by decide) ?_
  refine w_cV f248_8 (Or.inl rfl) rfl (by omega) (okd_of (by assumption)) rfl ⟨Nat.le_of_ble_eq_true rfl, rfl, Nat.le_of_ble_eq_true rfl⟩ (en232 _ _ _) (s232f (w := w) (nj := 1) (by repeat (first | exact hw | refine setv_w ?_ (by decide) | refine hput_w ?_ (by decide))) rfl (by decide) (by omega) hi) (pv232 _ _) ?_
  refine w_if_eq (t := 16) f248_11 (by decide) (fun c1 => by omega) (fun c1 => ?_)
  refine w_iconst (v := 0) f248_14 (by decide) ?_
  refine w_iret f248_15 rfl ?_
  rw [hput_ss]
theorem s249t {e : Int} (hw : h 269 = w) (hE : 0 ≤ w 1 ∧ w 1 ≤ 8) (hf : WFt w) (hc : WFc w) (hi : 0 ≤ e ∧ e < w 1) : Rn (ev 249 0 [AR 268, AI e] [] (KS r d, h, R)) (QR r d R h 0 (AI (if (vdt w (hereW w) e).1 = 4 then fb w (vdt w (hereW w) e).2.2 else -1))) := by
  have k0 := @kd_268 r d
  have h1 := hereW_r hc
  have hv := vdt_r (e := e) hf h1
  have e9 : ∀ h a b, setv h a b 268 8 = b := fun h a b => (hput_j (by decide)).trans hput_s
  have e7 : ∀ h a b, setv h a b 268 7 = a := fun h a b => hput_s
  refine w_aloadn f249_0 rfl (by omega) ?_
  refine w_iconst (v := 0) f249_1 (by decide) ?_
  refine w_putI f249_2 (by assumption) ?_
  refine w_aloadn f249_5 rfl (by omega) ?_
  refine w_iloadn f249_6 rfl ?_
  refine w_iconst (v := 1) f249_7 (by decide) ?_
  refine w_cV f249_8 (Or.inl rfl) rfl (by omega) (okd_of (by assumption)) rfl ⟨Nat.le_of_ble_eq_true rfl, rfl, Nat.le_of_ble_eq_true rfl⟩ (en232 _ _ _) (s232t (w := w) (nj := 1) (by repeat (first | exact hw | refine setv_w ?_ (by decide) | refine hput_w ?_ (by decide))) rfl (by decide) (by omega) hi) (pv232 _ _) ?_
  refine w_if_eq (t := 16) f249_11 (by decide) (fun c1 => ?_) (fun c1 => by omega)
  refine w_aloadn f249_16 rfl (by omega) ?_
  refine w_aloadn f249_17 rfl (by omega) ?_
  refine w_cV f249_18 (Or.inl rfl) rfl (by omega) (okd_of (by assumption)) rfl ⟨Nat.le_of_ble_eq_true rfl, rfl, Nat.le_of_ble_eq_true rfl⟩ (en162 _) (s162 (w := w) (by repeat (first | exact hw | refine setv_w ?_ (by decide) | refine hput_w ?_ (by decide))) hc) (pv162 _ _) ?_
  refine w_iloadn f249_21 rfl ?_
  refine w_cV f249_22 (Or.inl rfl) rfl (by omega) (okd_of (by assumption)) rfl ⟨Nat.le_of_ble_eq_true rfl, rfl, Nat.le_of_ble_eq_true rfl⟩ (en175 _ _ _) (s175 (w := w) (by repeat (first | exact hw | refine setv_w ?_ (by decide) | refine hput_w ?_ (by decide))) hf h1) (pv175 _ _) ?_
  refine w_iconst (v := 4) f249_25 (by decide) ?_
  refine w_ic_ne (t := 40) f249_26 (by decide) (fun c2 => ?_) (fun c2 => ?_)
  · refine w_iconst (v := -1) f249_40 (by decide) ?_
    refine w_iret f249_41 rfl ?_
    first | exact ⟨_, setv_S, by rw [if_pos c2]⟩ | exact ⟨_, setv_S, by rw [if_neg c2]⟩
  · refine w_aloadn f249_29 rfl (by omega) ?_
    refine w_aloadn f249_30 rfl (by omega) ?_
    refine w_getI f249_31 (by decide) (by assumption) (by (try simp only [hput, hcopy, Nat.reduceEqDiff, Nat.add_left_cancel_iff, Nat.add_right_cancel_iff, Nat.left_eq_add, Nat.add_eq_left, Nat.right_eq_add, Nat.add_eq_right, Nat.reduceAdd, Nat.add_zero, Nat.succ_ne_self, Nat.one_ne_zero, Nat.zero_ne_one, eq_self, and_self, and_true, true_and, and_false, false_and, if_true, if_false, reduceIte, Int.reduceToNat, Int.toNat_natCast, e9, e7]); exact rfl) ?_
    refine w_cV f249_34 (Or.inl rfl) rfl (by omega) (okd_of (by assumption)) rfl ⟨Nat.le_of_ble_eq_true rfl, rfl, Nat.le_of_ble_eq_true rfl⟩ (en171 _ _) (s171 (w := w) (by repeat (first | exact hw | refine setv_w ?_ (by decide) | refine hput_w ?_ (by decide))) hv.1 hf.2.1) (pv171 _ _) ?_
    refine w_goto (t := 41) f249_37 (by decide) ?_
    refine w_iret f249_41 rfl ?_
    first | exact ⟨_, setv_S, by rw [if_pos c2]⟩ | exact ⟨_, setv_S, by rw [if_neg c2]⟩
theorem s249f {e : Int} (hw : h 269 = w) (hE : 0 ≤ w 1 ∧ w 1 ≤ 8) (hi : ¬ (0 ≤ e ∧ e < w 1)) : ev 249 0 [AR 268, AI e] [] (KS r d, h, R) = some (.inl (AI 0), (KS r d, hput h 268 6 1, R)) := by
  refine Rn.eq ?_
  have k0 := @kd_268 r d
  refine w_aloadn f249_0 rfl (by omega) ?_
  refine w_iconst (v := 0) f249_1 (by decide) ?_
  refine w_putI f249_2 (by assumption) ?_
  refine w_aloadn f249_5 rfl (by omega) ?_
  refine w_iloadn f249_6 rfl ?_
  refine w_iconst (v := 1) f249_7 (by decide) ?_
  refine w_cV f249_8 (Or.inl rfl) rfl (by omega) (okd_of (by assumption)) rfl ⟨Nat.le_of_ble_eq_true rfl, rfl, Nat.le_of_ble_eq_true rfl⟩ (en232 _ _ _) (s232f (w := w) (nj := 1) (by repeat (first | exact hw | refine setv_w ?_ (by decide) | refine hput_w ?_ (by decide))) rfl (by decide) (by omega) hi) (pv232 _ _) ?_
  refine w_if_eq (t := 16) f249_11 (by decide) (fun c1 => by omega) (fun c1 => ?_)
  refine w_iconst (v := 0) f249_14 (by decide) ?_
  refine w_iret f249_15 rfl ?_
  rw [hput_ss]
theorem s250 (hw : h 269 = w) (hE : 0 ≤ w 1 ∧ w 1 ≤ 8) (hf : WFt w) (hc : WFc w) : Rn (ev 250 0 [AR 268] [] (KS r d, h, R)) (QR r d R h 0 (AI (b2i (stk w (hereW w))))) := by
  have k0 := @kd_268 r d
  have h1 := hereW_r hc
  refine w_aloadn f250_0 rfl (by omega) ?_
  refine w_iconst (v := 0) f250_1 (by decide) ?_
  refine w_putI f250_2 (by assumption) ?_
  refine w_aloadn f250_5 rfl (by omega) ?_
  refine w_aloadn f250_6 rfl (by omega) ?_
  refine w_cV f250_7 (Or.inl rfl) rfl (by omega) (okd_of (by assumption)) rfl ⟨Nat.le_of_ble_eq_true rfl, rfl, Nat.le_of_ble_eq_true rfl⟩ (en162 _) (s162 (w := w) (by repeat (first | exact hw | refine setv_w ?_ (by decide) | refine hput_w ?_ (by decide))) hc) (pv162 _ _) ?_
  refine w_qV f250_10 (Or.inl rfl) rfl (by omega) (okd_of (by assumption)) rfl ⟨Nat.le_of_ble_eq_true rfl, rfl, Nat.le_of_ble_eq_true rfl⟩ (en176 _ _) (s176 (w := w) (by repeat (first | exact hw | refine setv_w ?_ (by decide) | refine hput_w ?_ (by decide))) hf h1 hE) (fun o9 ho9 => ?_)
  obtain ⟨a1, b1, rfl⟩ := ho9
  refine w_bok (pv176 _ _) ?_
  refine w_zret f250_13 rfl (b2i_01 _) ?_
  exact ⟨_, setv_S, rfl⟩
theorem s252t {v : Int} (hw : h 269 = w) (hi : 1 ≤ v ∧ v ≤ 4) : ev 252 0 [AR 268, AI v] [] (KS r d, h, R) = some (.inl (AI (w (12 + v).toNat)), (KS r d, hput h 268 6 0, R)) := by
  refine Rn.eq ?_
  have k0 := @kd_268 r d
  have k1 := @kd_269 r d
  refine w_aloadn f252_0 rfl (by omega) ?_
  refine w_iconst (v := 0) f252_1 (by decide) ?_
  refine w_putI f252_2 (by assumption) ?_
  refine w_aloadn f252_5 rfl (by omega) ?_
  refine w_iloadn f252_6 rfl ?_
  refine w_iconst (v := 1) f252_7 (by decide) ?_
  refine w_iconst (v := 4) f252_8 (by decide) ?_
  refine w_cS f252_9 (Or.inl rfl) (Nat.le_of_ble_eq_true rfl) rfl rfl ⟨Nat.le_of_ble_eq_true rfl, rfl, Nat.le_of_ble_eq_true rfl⟩ (en148 _ _ _) (s148) (pv148 _ _) ?_
  refine w_ifb_ne (t := 19) f252_12 (by decide) (fun c1 => ?_) (fun c1 => by omega)
  refine w_iconst (v := 0) f252_19 (by decide) ?_
  refine w_iconst (v := 1) f252_20 (by decide) ?_
  refine w_cV f252_21 (Or.inl rfl) rfl (by omega) (okd_of (by assumption)) rfl ⟨Nat.le_of_ble_eq_true rfl, rfl, Nat.le_of_ble_eq_true rfl⟩ (en150 _ _ _) (s150 (by decide)) (pv150 _ _) ?_
  refine w_if_eq (t := 31) f252_24 (by decide) (fun c2 => ?_) (fun c2 => by omega)
  rw [if_neg (by decide)]
  refine w_aloadn f252_31 rfl (by omega) ?_
  refine w_getR f252_32 (by assumption) rfl (by omega) ?_
  refine w_bipush (v := 12) f252_35 (by decide) ?_
  refine w_iloadn f252_37 rfl ?_
  refine w_iaddn f252_38 (by omega) ?_
  refine w_iald f252_39 (by assumption) (by omega) (by (try simp only [hput, hcopy, Nat.reduceEqDiff, Nat.add_left_cancel_iff, Nat.add_right_cancel_iff, Nat.left_eq_add, Nat.add_eq_left, Nat.right_eq_add, Nat.add_eq_right, Nat.reduceAdd, Nat.add_zero, Nat.succ_ne_self, Nat.one_ne_zero, Nat.zero_ne_one, eq_self, and_self, and_true, true_and, and_false, false_and, if_true, if_false, reduceIte, Int.reduceToNat, Int.toNat_natCast, hw]); exact rfl) ?_
  refine w_iret f252_40 rfl ?_
  rfl
theorem s252f {v : Int} (hi : ¬ (1 ≤ v ∧ v ≤ 4)) : ev 252 0 [AR 268, AI v] [] (KS r d, h, R) = some (.inl (AI 0), (KS r d, hput h 268 6 1, R)) := by
  refine Rn.eq ?_
  have k0 := @kd_268 r d
  refine w_aloadn f252_0 rfl (by omega) ?_
  refine w_iconst (v := 0) f252_1 (by decide) ?_
  refine w_putI f252_2 (by assumption) ?_
  refine w_aloadn f252_5 rfl (by omega) ?_
  refine w_iloadn f252_6 rfl ?_
  refine w_iconst (v := 1) f252_7 (by decide) ?_
  refine w_iconst (v := 4) f252_8 (by decide) ?_
  refine w_cS f252_9 (Or.inl rfl) (Nat.le_of_ble_eq_true rfl) rfl rfl ⟨Nat.le_of_ble_eq_true rfl, rfl, Nat.le_of_ble_eq_true rfl⟩ (en148 _ _ _) (s148) (pv148 _ _) ?_
  refine w_ifb_ne (t := 19) f252_12 (by decide) (fun c1 => by omega) (fun c1 => ?_)
  refine w_iconst (v := 1) f252_15 (by decide) ?_
  refine w_goto (t := 20) f252_16 (by decide) ?_
  refine w_iconst (v := 1) f252_20 (by decide) ?_
  refine w_cV f252_21 (Or.inl rfl) rfl (by omega) (okd_of (by assumption)) rfl ⟨Nat.le_of_ble_eq_true rfl, rfl, Nat.le_of_ble_eq_true rfl⟩ (en150 _ _ _) (s150 (by decide)) (pv150 _ _) ?_
  refine w_if_eq (t := 31) f252_24 (by decide) (fun c2 => by omega) (fun c2 => ?_)
  refine w_iconst (v := 0) f252_27 (by decide) ?_
  refine w_goto (t := 40) f252_28 (by decide) ?_
  refine w_iret f252_40 rfl ?_
  rw [if_pos rfl, hput_ss]
def cnG (w : Nat → Int) (f : Int) : Nat → Int → Int → Int
  | 0, _, a => a
  | n + 1, k, a => cnG w f n (k + 1) (a + (if 0 < w (f + k).toNat then 1 else 0))
theorem l253 {f m : Int} {nm : Nat} (hw : h 269 = w) (hm : m.toNat = nm) (hm0 : 0 ≤ m ∧ m ≤ 4) (hb : 0 ≤ f ∧ f + w nm ≤ 504 ∧ w nm ≤ 100 ∧ f ≤ 504) : ∀ (n : Nat) (k a : Int), 0 ≤ k → k + n = w nm → 0 ≤ a ∧ a ≤ k → ev 253 5 [AR 268, AI f, AI m, AI a, AI k] [] (KS r d, h, R) = some (.inl (AI (cnG w f n k a)), (KS r d, h, R)) := by
  intro n
  have k0 := @kd_268 r d
  have k1 := @kd_269 r d
  subst hm
  induction n with
  | zero =>
    intro k a h1 h2 h3
    refine Rn.eq ?_
    refine w_iload f253_5 rfl ?_
    refine w_aloadn f253_7 rfl (by omega) ?_
    refine w_getR f253_8 (by assumption) rfl (by omega) ?_
    refine w_iloadn f253_11 rfl ?_
    refine w_iald f253_12 (by assumption) (by omega) (by (try simp only [hput, hcopy, Nat.reduceEqDiff, Nat.add_left_cancel_iff, Nat.add_right_cancel_iff, Nat.left_eq_add, Nat.add_eq_left, Nat.right_eq_add, Nat.add_eq_right, Nat.reduceAdd, Nat.add_zero, Nat.succ_ne_self, Nat.one_ne_zero, Nat.zero_ne_one, eq_self, and_self, and_true, true_and, and_false, false_and, if_true, if_false, reduceIte, Int.reduceToNat, Int.toNat_natCast, hw]); exact rfl) ?_
    refine w_ic_ge (t := 45) f253_13 (by decide) (fun c1 => ?_) (fun c1 => by omega)
    refine w_iloadn f253_45 rfl ?_
    refine w_iret f253_46 rfl ?_
    exact rfl
  | succ n ih =>
    intro k a h1 h2 h3
    refine Rn.eq ?_
    refine w_iload f253_5 rfl ?_
    refine w_aloadn f253_7 rfl (by omega) ?_
    refine w_getR f253_8 (by assumption) rfl (by omega) ?_
    refine w_iloadn f253_11 rfl ?_
    refine w_iald f253_12 (by assumption) (by omega) (by (try simp only [hput, hcopy, Nat.reduceEqDiff, Nat.add_left_cancel_iff, Nat.add_right_cancel_iff, Nat.left_eq_add, Nat.add_eq_left, Nat.right_eq_add, Nat.add_eq_right, Nat.reduceAdd, Nat.add_zero, Nat.succ_ne_self, Nat.one_ne_zero, Nat.zero_ne_one, eq_self, and_self, and_true, true_and, and_false, false_and, if_true, if_false, reduceIte, Int.reduceToNat, Int.toNat_natCast, hw]); exact rfl) ?_
    refine w_ic_ge (t := 45) f253_13 (by decide) (fun c1 => by omega) (fun c1 => ?_)
    refine w_iloadn f253_16 rfl ?_
    refine w_aloadn f253_17 rfl (by omega) ?_
    refine w_getR f253_18 (by assumption) rfl (by omega) ?_
    refine w_iloadn f253_21 rfl ?_
    refine w_iload f253_22 rfl ?_
    refine w_iaddn f253_24 (by omega) ?_
    refine w_iald f253_25 (by assumption) (by omega) (by (try simp only [hput, hcopy, Nat.reduceEqDiff, Nat.add_left_cancel_iff, Nat.add_right_cancel_iff, Nat.left_eq_add, Nat.add_eq_left, Nat.right_eq_add, Nat.add_eq_right, Nat.reduceAdd, Nat.add_zero, Nat.succ_ne_self, Nat.one_ne_zero, Nat.zero_ne_one, eq_self, and_self, and_true, true_and, and_false, false_and, if_true, if_false, reduceIte, Int.reduceToNat, Int.toNat_natCast, hw]); exact rfl) ?_
    refine w_if_le (t := 33) f253_26 (by decide) (fun c2 => ?_) (fun c2 => ?_)
    · refine w_iconst (v := 0) f253_33 (by decide) ?_
      refine w_cS f253_34 (Or.inl rfl) (Nat.le_of_ble_eq_true rfl) rfl rfl ⟨Nat.le_of_ble_eq_true rfl, rfl, Nat.le_of_ble_eq_true rfl⟩ (en149 _) (s149i (by decide)) (pv149 _ _) ?_
      refine w_iaddn f253_37 (by omega) ?_
      refine w_istoren f253_38 (Nat.le_of_ble_eq_true rfl) (sto_5_3 rfl) ?_
      refine w_iincn f253_39 rfl (by omega) (sto_5_4 rfl) ?_
      refine w_goto (t := 5) f253_42 (by decide) ?_
      first | (refine Rn.to (ih _ _ (by omega) (by omega) (by omega)) ?_; simp only [cnG]; rw [if_neg (by omega)]; done) | (refine Rn.to (ih _ _ (by omega) (by omega) (by omega)) ?_; simp only [cnG]; rw [if_pos (by omega)]; done)
    · refine w_iconst (v := 1) f253_29 (by decide) ?_
      refine w_goto (t := 34) f253_30 (by decide) ?_
      refine w_cS f253_34 (Or.inl rfl) (Nat.le_of_ble_eq_true rfl) rfl rfl ⟨Nat.le_of_ble_eq_true rfl, rfl, Nat.le_of_ble_eq_true rfl⟩ (en149 _) (s149i (by decide)) (pv149 _ _) ?_
      refine w_iaddn f253_37 (by omega) ?_
      refine w_istoren f253_38 (Nat.le_of_ble_eq_true rfl) (sto_5_3 rfl) ?_
      refine w_iincn f253_39 rfl (by omega) (sto_5_4 rfl) ?_
      refine w_goto (t := 5) f253_42 (by decide) ?_
      first | (refine Rn.to (ih _ _ (by omega) (by omega) (by omega)) ?_; simp only [cnG]; rw [if_neg (by omega)]; done) | (refine Rn.to (ih _ _ (by omega) (by omega) (by omega)) ?_; simp only [cnG]; rw [if_pos (by omega)]; done)
theorem s253 {f m : Int} {nm : Nat} (hw : h 269 = w) (hm : m.toNat = nm) (hm0 : 0 ≤ m ∧ m ≤ 4) (hb : 0 ≤ f ∧ f + w nm ≤ 504 ∧ w nm ≤ 100 ∧ f ≤ 504) (h0 : 0 ≤ w nm) : ev 253 0 [AR 268, AI f, AI m, AU, AU] [] (KS r d, h, R) = some (.inl (AI (cnG w f (w nm).toNat 0 0)), (KS r d, h, R)) := by
  refine Rn.eq ?_
  refine w_iconst (v := 0) f253_0 (by decide) ?_
  refine w_istoren f253_1 (Nat.le_of_ble_eq_true rfl) (sto_5_3 rfl) ?_
  refine w_iconst (v := 0) f253_2 (by decide) ?_
  refine w_istore f253_3 (Nat.le_of_ble_eq_true rfl) (sto_5_4 rfl) ?_
  exact Rn.to (l253 hw hm hm0 hb (w nm).toNat 0 0 (by omega) (by omega) (by omega)) rfl
theorem cnG_r {f : Int} : ∀ (n : Nat) (k a : Int), a ≤ cnG w f n k a ∧ cnG w f n k a ≤ a + n
  | 0, _, a => ⟨Int.le_refl _, by show a ≤ a + ((0 : Nat) : Int); omega⟩
  | n + 1, k, a => by
    have h1 := cnG_r (f := f) n (k + 1) (a + (if 0 < w (f + k).toNat then 1 else 0))
    show a ≤ cnG w f n (k + 1) (a + (if 0 < w (f + k).toNat then 1 else 0)) ∧ cnG w f n (k + 1) (a + (if 0 < w (f + k).toNat then 1 else 0)) ≤ a + ((n + 1 : Nat) : Int)
    split at h1 <;> split <;> omega
def fuG (w : Nat → Int) : Nat → Int → Int
  | 0, _ => -1
  | n + 1, k => if w (69 + k).toNat = 0 then k else fuG w n (k + 1)
theorem l257 (hw : h 269 = w) (h3 : w 3 ≤ 24) : ∀ (n : Nat) (k : Int), 0 ≤ k → k + n = w 3 → ev 257 7 [AR 268, AI k] [] (KS r d, h, R) = some (.inl (AI (fuG w n k)), (KS r d, h, R)) := by
  intro n
  have k0 := @kd_268 r d
  have k1 := @kd_269 r d
  induction n with
  | zero =>
    intro k h1 h2
    refine Rn.eq ?_
    refine w_iloadn f257_7 rfl ?_
    refine w_aloadn f257_8 rfl (by omega) ?_
    refine w_getR f257_9 (by assumption) rfl (by omega) ?_
    refine w_iconst (v := 3) f257_12 (by decide) ?_
    refine w_iald f257_13 (by assumption) (by omega) (by (try simp only [hput, hcopy, Nat.reduceEqDiff, Nat.add_left_cancel_iff, Nat.add_right_cancel_iff, Nat.left_eq_add, Nat.add_eq_left, Nat.right_eq_add, Nat.add_eq_right, Nat.reduceAdd, Nat.add_zero, Nat.succ_ne_self, Nat.one_ne_zero, Nat.zero_ne_one, eq_self, and_self, and_true, true_and, and_false, false_and, if_true, if_false, reduceIte, Int.reduceToNat, Int.toNat_natCast, hw]); exact rfl) ?_
    refine w_ic_ge (t := 37) f257_14 (by decide) (fun c1 => ?_) (fun c1 => by omega)
    refine w_iconst (v := -1) f257_37 (by decide) ?_
    refine w_iret f257_38 rfl ?_
    exact rfl
  | succ n ih =>
    intro k h1 h2
    refine Rn.eq ?_
    refine w_iloadn f257_7 rfl ?_
    refine w_aloadn f257_8 rfl (by omega) ?_
    refine w_getR f257_9 (by assumption) rfl (by omega) ?_
    refine w_iconst (v := 3) f257_12 (by decide) ?_
    refine w_iald f257_13 (by assumption) (by omega) (by (try simp only [hput, hcopy, Nat.reduceEqDiff, Nat.add_left_cancel_iff, Nat.add_right_cancel_iff, Nat.left_eq_add, Nat.add_eq_left, Nat.right_eq_add, Nat.add_eq_right, Nat.reduceAdd, Nat.add_zero, Nat.succ_ne_self, Nat.one_ne_zero, Nat.zero_ne_one, eq_self, and_self, and_true, true_and, and_false, false_and, if_true, if_false, reduceIte, Int.reduceToNat, Int.toNat_natCast, hw]); exact rfl) ?_
    refine w_ic_ge (t := 37) f257_14 (by decide) (fun c1 => by omega) (fun c1 => ?_)
    refine w_aloadn f257_17 rfl (by omega) ?_
    refine w_getR f257_18 (by assumption) rfl (by omega) ?_
    refine w_bipush (v := 69) f257_21 (by decide) ?_
    refine w_iloadn f257_23 rfl ?_
    refine w_iaddn f257_24 (by omega) ?_
    refine w_iald f257_25 (by assumption) (by omega) (by (try simp only [hput, hcopy, Nat.reduceEqDiff, Nat.add_left_cancel_iff, Nat.add_right_cancel_iff, Nat.left_eq_add, Nat.add_eq_left, Nat.right_eq_add, Nat.add_eq_right, Nat.reduceAdd, Nat.add_zero, Nat.succ_ne_self, Nat.one_ne_zero, Nat.zero_ne_one, eq_self, and_self, and_true, true_and, and_false, false_and, if_true, if_false, reduceIte, Int.reduceToNat, Int.toNat_natCast, hw]); exact rfl) ?_
    refine w_if_ne (t := 31) f257_26 (by decide) (fun c2 => ?_) (fun c2 => ?_)
    · refine w_iincn f257_31 rfl (by omega) (sto_2_1 rfl) ?_
      refine w_goto (t := 7) f257_34 (by decide) ?_
      refine Rn.to (ih _ (by omega) (by omega)) ?_
      simp only [fuG]; rw [if_neg c2]
    · refine w_iloadn f257_29 rfl ?_
      refine w_iret f257_30 rfl ?_
      simp only [fuG]; rw [if_pos c2]
theorem s257 (hw : h 269 = w) (h3 : 0 ≤ w 3 ∧ w 3 ≤ 24) : ev 257 0 [AR 268, AU] [] (KS r d, h, R) = some (.inl (AI (fuG w (w 3).toNat 0)), (KS r d, hput h 268 6 0, R)) := by
  refine Rn.eq ?_
  have k0 := @kd_268 r d
  refine w_aloadn f257_0 rfl (by omega) ?_
  refine w_iconst (v := 0) f257_1 (by decide) ?_
  refine w_putI f257_2 (by assumption) ?_
  refine w_iconst (v := 0) f257_5 (by decide) ?_
  refine w_istoren f257_6 (Nat.le_of_ble_eq_true rfl) (sto_2_1 rfl) ?_
  exact Rn.to (l257 (w := w) (by repeat (first | exact hw | refine setv_w ?_ (by decide) | refine hput_w ?_ (by decide))) h3.2 (w 3).toNat 0 (by omega) (by omega)) rfl
def mvG (w : Nat → Int) : Nat → Int → Int → Int
  | 0, _, b => b
  | n + 1, k, b => mvG w n (k + 1) (if w (59 + b).toNat < w (59 + k).toNat then k else b)
theorem l258 (hw : h 269 = w) (h3 : w 0 ≤ 10) : ∀ (n : Nat) (k b : Int), 0 ≤ k → k + n = w 0 → 0 ≤ b ∧ b < k → ev 258 9 [AR 268, AI b, AI k] [] (KS r d, h, R) = some (.inl (AI (mvG w n k b)), (KS r d, h, R)) := by
  intro n
  have k0 := @kd_268 r d
  have k1 := @kd_269 r d
  induction n with
  | zero =>
    intro k b h1 h2 h3
    refine Rn.eq ?_
    refine w_iloadn f258_9 rfl ?_
    refine w_aloadn f258_10 rfl (by omega) ?_
    refine w_getR f258_11 (by assumption) rfl (by omega) ?_
    refine w_iconst (v := 0) f258_14 (by decide) ?_
    refine w_iald f258_15 (by assumption) (by omega) (by (try simp only [hput, hcopy, Nat.reduceEqDiff, Nat.add_left_cancel_iff, Nat.add_right_cancel_iff, Nat.left_eq_add, Nat.add_eq_left, Nat.right_eq_add, Nat.add_eq_right, Nat.reduceAdd, Nat.add_zero, Nat.succ_ne_self, Nat.one_ne_zero, Nat.zero_ne_one, eq_self, and_self, and_true, true_and, and_false, false_and, if_true, if_false, reduceIte, Int.reduceToNat, Int.toNat_natCast, hw]); exact rfl) ?_
    refine w_ic_ge (t := 48) f258_16 (by decide) (fun c1 => ?_) (fun c1 => by omega)
    refine w_iloadn f258_48 rfl ?_
    refine w_iret f258_49 rfl ?_
    exact rfl
  | succ n ih =>
    intro k b h1 h2 h3
    refine Rn.eq ?_
    refine w_iloadn f258_9 rfl ?_
    refine w_aloadn f258_10 rfl (by omega) ?_
    refine w_getR f258_11 (by assumption) rfl (by omega) ?_
    refine w_iconst (v := 0) f258_14 (by decide) ?_
    refine w_iald f258_15 (by assumption) (by omega) (by (try simp only [hput, hcopy, Nat.reduceEqDiff, Nat.add_left_cancel_iff, Nat.add_right_cancel_iff, Nat.left_eq_add, Nat.add_eq_left, Nat.right_eq_add, Nat.add_eq_right, Nat.reduceAdd, Nat.add_zero, Nat.succ_ne_self, Nat.one_ne_zero, Nat.zero_ne_one, eq_self, and_self, and_true, true_and, and_false, false_and, if_true, if_false, reduceIte, Int.reduceToNat, Int.toNat_natCast, hw]); exact rfl) ?_
    refine w_ic_ge (t := 48) f258_16 (by decide) (fun c1 => by omega) (fun c1 => ?_)
    refine w_aloadn f258_19 rfl (by omega) ?_
    refine w_getR f258_20 (by assumption) rfl (by omega) ?_
    refine w_bipush (v := 59) f258_23 (by decide) ?_
    refine w_iloadn f258_25 rfl ?_
    refine w_iaddn f258_26 (by omega) ?_
    refine w_iald f258_27 (by assumption) (by omega) (by (try simp only [hput, hcopy, Nat.reduceEqDiff, Nat.add_left_cancel_iff, Nat.add_right_cancel_iff, Nat.left_eq_add, Nat.add_eq_left, Nat.right_eq_add, Nat.add_eq_right, Nat.reduceAdd, Nat.add_zero, Nat.succ_ne_self, Nat.one_ne_zero, Nat.zero_ne_one, eq_self, and_self, and_true, true_and, and_false, false_and, if_true, if_false, reduceIte, Int.reduceToNat, Int.toNat_natCast, hw]); exact rfl) ?_
    refine w_aloadn f258_28 rfl (by omega) ?_
    refine w_getR f258_29 (by assumption) rfl (by omega) ?_
    refine w_bipush (v := 59) f258_32 (by decide) ?_
    refine w_iloadn f258_34 rfl ?_
    refine w_iaddn f258_35 (by omega) ?_
    refine w_iald f258_36 (by assumption) (by omega) (by (try simp only [hput, hcopy, Nat.reduceEqDiff, Nat.add_left_cancel_iff, Nat.add_right_cancel_iff, Nat.left_eq_add, Nat.add_eq_left, Nat.right_eq_add, Nat.add_eq_right, Nat.reduceAdd, Nat.add_zero, Nat.succ_ne_self, Nat.one_ne_zero, Nat.zero_ne_one, eq_self, and_self, and_true, true_and, and_false, false_and, if_true, if_false, reduceIte, Int.reduceToNat, Int.toNat_natCast, hw]); exact rfl) ?_
    refine w_ic_le (t := 42) f258_37 (by decide) (fun c2 => ?_) (fun c2 => ?_)
    · refine w_iincn f258_42 rfl (by omega) (sto_3_2 rfl) ?_
      refine w_goto (t := 9) f258_45 (by decide) ?_
      first | (refine Rn.to (ih _ _ (by omega) (by omega) (by omega)) ?_; simp only [mvG]; rw [if_neg (by omega)]; done) | (refine Rn.to (ih _ _ (by omega) (by omega) (by omega)) ?_; simp only [mvG]; rw [if_pos (by omega)]; done)
    · refine w_iloadn f258_40 rfl ?_
      refine w_istoren f258_41 (Nat.le_of_ble_eq_true rfl) (sto_3_1 rfl) ?_
      refine w_iincn f258_42 rfl (by omega) (sto_3_2 rfl) ?_
      refine w_goto (t := 9) f258_45 (by decide) ?_
      first | (refine Rn.to (ih _ _ (by omega) (by omega) (by omega)) ?_; simp only [mvG]; rw [if_neg (by omega)]; done) | (refine Rn.to (ih _ _ (by omega) (by omega) (by omega)) ?_; simp only [mvG]; rw [if_pos (by omega)]; done)
theorem s258 (hw : h 269 = w) (h3 : 1 ≤ w 0 ∧ w 0 ≤ 10) : ev 258 0 [AR 268, AU, AU] [] (KS r d, h, R) = some (.inl (AI (mvG w (w 0 - 1).toNat 1 0)), (KS r d, hput h 268 6 0, R)) := by
  refine Rn.eq ?_
  have k0 := @kd_268 r d
  refine w_aloadn f258_0 rfl (by omega) ?_
  refine w_iconst (v := 0) f258_1 (by decide) ?_
  refine w_putI f258_2 (by assumption) ?_
  refine w_iconst (v := 0) f258_5 (by decide) ?_
  refine w_istoren f258_6 (Nat.le_of_ble_eq_true rfl) (sto_3_1 rfl) ?_
  refine w_iconst (v := 1) f258_7 (by decide) ?_
  refine w_istoren f258_8 (Nat.le_of_ble_eq_true rfl) (sto_3_2 rfl) ?_
  exact Rn.to (l258 (w := w) (by repeat (first | exact hw | refine setv_w ?_ (by decide) | refine hput_w ?_ (by decide))) h3.2 (w 0 - 1).toNat 1 0 (by omega) (by omega) (by omega)) rfl
theorem s259 {b : Int} (hw : h 269 = w) (h8 : 0 ≤ w 18 ∧ w 18 ≤ 20) : ev 259 0 [AR 268, AI b] [] (KS r d, h, R) = some (.inl (AI (if 0 ≤ b ∧ b < w 18 then w (19 + 2 * b).toNat else -1)), (KS r d, hput h 268 6 0, R)) := by
  refine Rn.eq ?_
  have k0 := @kd_268 r d
  have k1 := @kd_269 r d
  refine w_aloadn f259_0 rfl (by omega) ?_
  refine w_iconst (v := 0) f259_1 (by decide) ?_
  refine w_putI f259_2 (by assumption) ?_
  refine w_iloadn f259_5 rfl ?_
  refine w_iconst (v := 0) f259_6 (by decide) ?_
  refine w_aloadn f259_7 rfl (by omega) ?_
  refine w_getR f259_8 (by assumption) rfl (by omega) ?_
  refine w_bipush (v := 18) f259_11 (by decide) ?_
  refine w_iald f259_13 (by assumption) (by omega) (by (try simp only [hput, hcopy, Nat.reduceEqDiff, Nat.add_left_cancel_iff, Nat.add_right_cancel_iff, Nat.left_eq_add, Nat.add_eq_left, Nat.right_eq_add, Nat.add_eq_right, Nat.reduceAdd, Nat.add_zero, Nat.succ_ne_self, Nat.one_ne_zero, Nat.zero_ne_one, eq_self, and_self, and_true, true_and, and_false, false_and, if_true, if_false, reduceIte, Int.reduceToNat, Int.toNat_natCast, hw]); exact rfl) ?_
  refine w_iconst (v := 1) f259_14 (by decide) ?_
  refine w_isubn f259_15 (by omega) ?_
  refine w_cS f259_16 (Or.inl rfl) (Nat.le_of_ble_eq_true rfl) rfl rfl ⟨Nat.le_of_ble_eq_true rfl, rfl, Nat.le_of_ble_eq_true rfl⟩ (en148 _ _ _) (s148) (pv148 _ _) ?_
  refine w_ifb_eq (t := 36) f259_19 (by decide) (fun c1 => ?_) (fun c1 => ?_)
  · refine w_iconst (v := -1) f259_36 (by decide) ?_
    refine w_iret f259_37 rfl ?_
    first | (rw [if_pos (by omega)]; done) | (rw [if_neg (by omega)]; done)
  · refine w_aloadn f259_22 rfl (by omega) ?_
    refine w_getR f259_23 (by assumption) rfl (by omega) ?_
    refine w_bipush (v := 19) f259_26 (by decide) ?_
    refine w_iconst (v := 2) f259_28 (by decide) ?_
    refine w_iloadn f259_29 rfl ?_
    refine w_imuln f259_30 (by omega) ?_
    refine w_iaddn f259_31 (by omega) ?_
    refine w_iald f259_32 (by assumption) (by omega) (by (try simp only [hput, hcopy, Nat.reduceEqDiff, Nat.add_left_cancel_iff, Nat.add_right_cancel_iff, Nat.left_eq_add, Nat.add_eq_left, Nat.right_eq_add, Nat.add_eq_right, Nat.reduceAdd, Nat.add_zero, Nat.succ_ne_self, Nat.one_ne_zero, Nat.zero_ne_one, eq_self, and_self, and_true, true_and, and_false, false_and, if_true, if_false, reduceIte, Int.reduceToNat, Int.toNat_natCast, hw]); exact rfl) ?_
    refine w_goto (t := 37) f259_33 (by decide) ?_
    refine w_iret f259_37 rfl ?_
    first | (rw [if_pos (by omega)]; done) | (rw [if_neg (by omega)]; done)
theorem s260 {b : Int} (hw : h 269 = w) (h8 : 0 ≤ w 18 ∧ w 18 ≤ 20) : ev 260 0 [AR 268, AI b] [] (KS r d, h, R) = some (.inl (AI (if 0 ≤ b ∧ b < w 18 then w (19 + 2 * b + 1).toNat else -1)), (KS r d, hput h 268 6 0, R)) := by
  refine Rn.eq ?_
  have k0 := @kd_268 r d
  have k1 := @kd_269 r d
  refine w_aloadn f260_0 rfl (by omega) ?_
  refine w_iconst (v := 0) f260_1 (by decide) ?_
  refine w_putI f260_2 (by assumption) ?_
  refine w_iloadn f260_5 rfl ?_
  refine w_iconst (v := 0) f260_6 (by decide) ?_
  refine w_aloadn f260_7 rfl (by omega) ?_
  refine w_getR f260_8 (by assumption) rfl (by omega) ?_
  refine w_bipush (v := 18) f260_11 (by decide) ?_
  refine w_iald f260_13 (by assumption) (by omega) (by (try simp only [hput, hcopy, Nat.reduceEqDiff, Nat.add_left_cancel_iff, Nat.add_right_cancel_iff, Nat.left_eq_add, Nat.add_eq_left, Nat.right_eq_add, Nat.add_eq_right, Nat.reduceAdd, Nat.add_zero, Nat.succ_ne_self, Nat.one_ne_zero, Nat.zero_ne_one, eq_self, and_self, and_true, true_and, and_false, false_and, if_true, if_false, reduceIte, Int.reduceToNat, Int.toNat_natCast, hw]); exact rfl) ?_
  refine w_iconst (v := 1) f260_14 (by decide) ?_
  refine w_isubn f260_15 (by omega) ?_
  refine w_cS f260_16 (Or.inl rfl) (Nat.le_of_ble_eq_true rfl) rfl rfl ⟨Nat.le_of_ble_eq_true rfl, rfl, Nat.le_of_ble_eq_true rfl⟩ (en148 _ _ _) (s148) (pv148 _ _) ?_
  refine w_ifb_eq (t := 38) f260_19 (by decide) (fun c1 => ?_) (fun c1 => ?_)
  · refine w_iconst (v := -1) f260_38 (by decide) ?_
    refine w_iret f260_39 rfl ?_
    first | (rw [if_pos (by omega)]; done) | (rw [if_neg (by omega)]; done)
  · refine w_aloadn f260_22 rfl (by omega) ?_
    refine w_getR f260_23 (by assumption) rfl (by omega) ?_
    refine w_bipush (v := 19) f260_26 (by decide) ?_
    refine w_iconst (v := 2) f260_28 (by decide) ?_
    refine w_iloadn f260_29 rfl ?_
    refine w_imuln f260_30 (by omega) ?_
    refine w_iaddn f260_31 (by omega) ?_
    refine w_iconst (v := 1) f260_32 (by decide) ?_
    refine w_iaddn f260_33 (by omega) ?_
    refine w_iald f260_34 (by assumption) (by omega) (by (try simp only [hput, hcopy, Nat.reduceEqDiff, Nat.add_left_cancel_iff, Nat.add_right_cancel_iff, Nat.left_eq_add, Nat.add_eq_left, Nat.right_eq_add, Nat.add_eq_right, Nat.reduceAdd, Nat.add_zero, Nat.succ_ne_self, Nat.one_ne_zero, Nat.zero_ne_one, eq_self, and_self, and_true, true_and, and_false, false_and, if_true, if_false, reduceIte, Int.reduceToNat, Int.toNat_natCast, hw]); exact rfl) ?_
    refine w_goto (t := 39) f260_35 (by decide) ?_
    refine w_iret f260_39 rfl ?_
    first | (rw [if_pos (by omega)]; done) | (rw [if_neg (by omega)]; done)
theorem s281 {b : Int} (hn : 0 ≤ h 268 30 ∧ h 268 30 ≤ 60) : ev 281 0 [AR 268, AI b] [] (KS r d, h, R) = some (.inl (AI (if 0 ≤ b ∧ b < h 268 30 then h 281 b.toNat else -1)), (KS r d, hput h 268 6 0, R)) := by
  refine Rn.eq ?_
  have k0 := @kd_268 r d
  have k1 := @kd_281 r d
  refine w_aloadn f281_0 rfl (by omega) ?_
  refine w_iconst (v := 0) f281_1 (by decide) ?_
  refine w_putI f281_2 (by assumption) ?_
  refine w_iloadn f281_5 rfl ?_
  refine w_iconst (v := 0) f281_6 (by decide) ?_
  refine w_aloadn f281_7 rfl (by omega) ?_
  refine w_getI f281_8 (by decide) (by assumption) (by (try simp only [hput, hcopy, Nat.reduceEqDiff, Nat.add_left_cancel_iff, Nat.add_right_cancel_iff, Nat.left_eq_add, Nat.add_eq_left, Nat.right_eq_add, Nat.add_eq_right, Nat.reduceAdd, Nat.add_zero, Nat.succ_ne_self, Nat.one_ne_zero, Nat.zero_ne_one, eq_self, and_self, and_true, true_and, and_false, false_and, if_true, if_false, reduceIte, Int.reduceToNat, Int.toNat_natCast]); exact rfl) ?_
  refine w_iconst (v := 1) f281_11 (by decide) ?_
  refine w_isubn f281_12 (by omega) ?_
  refine w_cS f281_13 (Or.inl rfl) (Nat.le_of_ble_eq_true rfl) rfl rfl ⟨Nat.le_of_ble_eq_true rfl, rfl, Nat.le_of_ble_eq_true rfl⟩ (en148 _ _ _) (s148) (pv148 _ _) ?_
  refine w_ifb_eq (t := 28) f281_16 (by decide) (fun c1 => ?_) (fun c1 => ?_)
  · refine w_iconst (v := -1) f281_28 (by decide) ?_
    refine w_iret f281_29 rfl ?_
    first | (rw [if_pos (by omega)]; done) | (rw [if_neg (by omega)]; done)
  · refine w_aloadn f281_19 rfl (by omega) ?_
    refine w_getR f281_20 (by assumption) rfl (by omega) ?_
    refine w_iloadn f281_23 rfl ?_
    refine w_iald f281_24 (by assumption) (by omega) (by (try simp only [hput, hcopy, Nat.reduceEqDiff, Nat.add_left_cancel_iff, Nat.add_right_cancel_iff, Nat.left_eq_add, Nat.add_eq_left, Nat.right_eq_add, Nat.add_eq_right, Nat.reduceAdd, Nat.add_zero, Nat.succ_ne_self, Nat.one_ne_zero, Nat.zero_ne_one, eq_self, and_self, and_true, true_and, and_false, false_and, if_true, if_false, reduceIte, Int.reduceToNat, Int.toNat_natCast]); exact rfl) ?_
    refine w_goto (t := 29) f281_25 (by decide) ?_
    refine w_iret f281_29 rfl ?_
    first | (rw [if_pos (by omega)]; done) | (rw [if_neg (by omega)]; done)
end A

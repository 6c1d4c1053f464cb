/-! the class's reading: takes, names, values -/
section A
variable {K : List AKd} {h : Nat → Nat → Int} {R : R4} {σ : Sg} {r d : Nat} {w : Nat → Int} {b : Nat → Int} {n : Int}
theorem s25p {T : Tk} (hP : PT h b n T) : Rn (ev 25 0 [AR 2] [] (KS r d, h, R)) (fun o => ∃ h1, (TcF h h1 ∧ PT h1 b n (tok b n T.2.1)) ∧ o = (.inl AU, (KS r d, h1, R))) := by
  obtain ⟨⟨a1, a2, a3, a0⟩, ⟨a4, a5, a6, -⟩, a10, a11, a12⟩ := hP
  refine (s25 a1 a2 a3 a0 a5 (by omega)).mono (fun o q => ?_)
  obtain ⟨h1, q1, q2, rfl⟩ := q
  exact ⟨h1, ⟨q1, ⟨q1.bb a1, q1.nn a2, a3, a0⟩, q2, tok_r a3 (by omega)⟩, rfl⟩
theorem s22 : ev 22 0 [AR 2] [] (KS r d, h, R) = some (.inl (AI (b2i (h 2 6 ≠ 0))), (KS r d, h, R)) := by
  refine Rn.eq ?_
  have k0 := @kd_2 r d
  refine w_aloadn f22_0 rfl (by omega) ?_
  refine w_getI f22_1 (by decide) (by assumption) (by (try simp only [hput, hcopy, Nat.reduceEqDiff, Nat.add_left_cancel_iff, Nat.add_right_cancel_iff, Nat.left_eq_add, Nat.add_eq_left, Nat.right_eq_add, Nat.add_eq_right, Nat.reduceAdd, Nat.add_zero, Nat.succ_ne_self, Nat.one_ne_zero, Nat.zero_ne_one, eq_self, and_self, and_true, true_and, and_false, false_and, if_true, if_false, reduceIte, Int.reduceToNat, Int.toNat_natCast]); exact rfl) ?_
  refine w_if_eq (t := 11) f22_4 (by decide) (fun c1 => ?_) (fun c1 => ?_)
  · refine w_iconst (v := 0) f22_11 (by decide) ?_
    refine w_zret f22_12 rfl (by decide) ?_
    first | exact ob_t (by assumption) | exact ob_f (fun z => z (by assumption))
  · refine w_iconst (v := 1) f22_7 (by decide) ?_
    refine w_goto (t := 12) f22_8 (by decide) ?_
    refine w_zret f22_12 rfl (by decide) ?_
    first | exact ob_t (by assumption) | exact ob_f (fun z => z (by assumption))
theorem s23 {T : Tk} (hP : PT h b n T) : ev 23 0 [AR 2] [] (KS r d, h, R) = some (.inl (AI (b2i (h 2 6 = 0 ∧ T.2.2.2 ≠ 0))), (KS r d, h, R)) := by
  refine Rn.eq ?_
  have k0 := @kd_2 r d
  have a6 := hP.2.1.2.2.1
  refine w_aloadn f23_0 rfl (by omega) ?_
  refine w_getI f23_1 (by decide) (by assumption) (by (try simp only [hput, hcopy, Nat.reduceEqDiff, Nat.add_left_cancel_iff, Nat.add_right_cancel_iff, Nat.left_eq_add, Nat.add_eq_left, Nat.right_eq_add, Nat.add_eq_right, Nat.reduceAdd, Nat.add_zero, Nat.succ_ne_self, Nat.one_ne_zero, Nat.zero_ne_one, eq_self, and_self, and_true, true_and, and_false, false_and, if_true, if_false, reduceIte, Int.reduceToNat, Int.toNat_natCast, a6]); exact rfl) ?_
  refine w_if_ne (t := 18) f23_4 (by decide) (fun c1 => ?_) (fun c1 => ?_)
  · refine w_iconst (v := 0) f23_18 (by decide) ?_
    refine w_zret f23_19 rfl (by decide) ?_
    first | (refine ob_t ?_; omega; done) | (refine ob_f ?_; omega; done)
  · refine w_aloadn f23_7 rfl (by omega) ?_
    refine w_getI f23_8 (by decide) (by assumption) (by (try simp only [hput, hcopy, Nat.reduceEqDiff, Nat.add_left_cancel_iff, Nat.add_right_cancel_iff, Nat.left_eq_add, Nat.add_eq_left, Nat.right_eq_add, Nat.add_eq_right, Nat.reduceAdd, Nat.add_zero, Nat.succ_ne_self, Nat.one_ne_zero, Nat.zero_ne_one, eq_self, and_self, and_true, true_and, and_false, false_and, if_true, if_false, reduceIte, Int.reduceToNat, Int.toNat_natCast, a6]); exact rfl) ?_
    refine w_if_eq (t := 18) f23_11 (by decide) (fun c2 => ?_) (fun c2 => ?_)
    · refine w_iconst (v := 0) f23_18 (by decide) ?_
      refine w_zret f23_19 rfl (by decide) ?_
      first | (refine ob_t ?_; omega; done) | (refine ob_f ?_; omega; done)
    · refine w_iconst (v := 1) f23_14 (by decide) ?_
      refine w_goto (t := 19) f23_15 (by decide) ?_
      refine w_zret f23_19 rfl (by decide) ?_
      first | (refine ob_t ?_; omega; done) | (refine ob_f ?_; omega; done)
theorem s27 {t : Nat} {T : Tk} (ht : t < am_txt.length) (hP : PT h b n T) : Rn (ev 27 0 [AR 2, AS (t + 1)] [] (KS r d, h, R)) (fun o => ((h 2 6 = 0 ∧ isW b T (text (t + 1)) = true) ∧ ∃ h1, (TcF h h1 ∧ PT h1 b n (tok b n T.2.1)) ∧ o = (.inl (AI 1), (KS r d, h1, R))) ∨ (¬ (h 2 6 = 0 ∧ isW b T (text (t + 1)) = true) ∧ o = (.inl (AI 0), (KS r d, h, R)))) := by
  have k0 := @kd_2 r d
  refine w_aloadn f27_0 rfl (by omega) ?_
  refine w_aloadns f27_1 rfl ?_
  refine w_cV f27_2 (Or.inl rfl) rfl (by omega) (okd_of (by assumption)) rfl ⟨Nat.le_of_ble_eq_true rfl, rfl, Nat.le_of_ble_eq_true rfl⟩ (en26 _ _) (s26 ht hP) (pv26 _ _) ?_
  refine w_ifb_ne (t := 10) f27_5 (by decide) (fun c1 => ?_) (fun c1 => ?_)
  · refine w_aloadn f27_10 rfl (by omega) ?_
    refine w_qV f27_11 (Or.inl rfl) rfl (by omega) (okd_of (by assumption)) rfl ⟨Nat.le_of_ble_eq_true rfl, rfl, Nat.le_of_ble_eq_true rfl⟩ (en25 _) (s25p hP) (fun o9 ho9 => ?_)
    obtain ⟨h1, q1, rfl⟩ := ho9
    refine w_bok (pv25 _ _) ?_
    refine w_iconst (v := 1) f27_14 (by decide) ?_
    refine w_zret f27_15 rfl (by decide) ?_
    first | exact Or.inl ⟨c1, h1, q1, rfl⟩ | exact Or.inr ⟨c1, rfl⟩
  · refine w_iconst (v := 0) f27_8 (by decide) ?_
    refine w_zret f27_9 rfl (by decide) ?_
    first | exact Or.inl ⟨c1, h1, q1, rfl⟩ | exact Or.inr ⟨c1, rfl⟩
theorem s30 {T : Tk} (hP : PT h b n T) : Rn (ev 30 0 [AR 2] [] (KS r d, h, R)) (fun o => ((h 2 6 = 0 ∧ T.2.2.2 = 3) ∧ ∃ h1, (TcF h h1 ∧ PT h1 b n (tok b n T.2.1)) ∧ o = (.inl AU, (KS r d, h1, R))) ∨ (¬ (h 2 6 = 0 ∧ T.2.2.2 = 3) ∧ o = (.inl AU, (KS r d, fle h 1, R)))) := by
  have k0 := @kd_2 r d
  have a6 := hP.2.1.2.2.1
  refine w_aloadn f30_0 rfl (by omega) ?_
  refine w_getI f30_1 (by decide) (by assumption) (by (try simp only [hput, hcopy, Nat.reduceEqDiff, Nat.add_left_cancel_iff, Nat.add_right_cancel_iff, Nat.left_eq_add, Nat.add_eq_left, Nat.right_eq_add, Nat.add_eq_right, Nat.reduceAdd, Nat.add_zero, Nat.succ_ne_self, Nat.one_ne_zero, Nat.zero_ne_one, eq_self, and_self, and_true, true_and, and_false, false_and, if_true, if_false, reduceIte, Int.reduceToNat, Int.toNat_natCast, a6]); exact rfl) ?_
  refine w_if_ne (t := 22) f30_4 (by decide) (fun c1 => ?_) (fun c1 => ?_)
  · refine w_aloadn f30_22 rfl (by omega) ?_
    refine w_iconst (v := 1) f30_23 (by decide) ?_
    refine w_cV f30_24 (Or.inl rfl) rfl (by omega) (okd_of (by assumption)) rfl ⟨Nat.le_of_ble_eq_true rfl, rfl, Nat.le_of_ble_eq_true rfl⟩ (en24 _ _) (s24) (pv24 _ _) ?_
    refine w_ret f30_27 rfl ?_
    first | exact Or.inl ⟨⟨by assumption, by assumption⟩, h1, q1, rfl⟩ | exact Or.inr ⟨by omega, rfl⟩
  · refine w_aloadn f30_7 rfl (by omega) ?_
    refine w_getI f30_8 (by decide) (by assumption) (by (try simp only [hput, hcopy, Nat.reduceEqDiff, Nat.add_left_cancel_iff, Nat.add_right_cancel_iff, Nat.left_eq_add, Nat.add_eq_left, Nat.right_eq_add, Nat.add_eq_right, Nat.reduceAdd, Nat.add_zero, Nat.succ_ne_self, Nat.one_ne_zero, Nat.zero_ne_one, eq_self, and_self, and_true, true_and, and_false, false_and, if_true, if_false, reduceIte, Int.reduceToNat, Int.toNat_natCast, a6]); exact rfl) ?_
    refine w_iconst (v := 3) f30_11 (by decide) ?_
    refine w_ic_ne (t := 22) f30_12 (by decide) (fun c2 => ?_) (fun c2 => ?_)
    · refine w_aloadn f30_22 rfl (by omega) ?_
      refine w_iconst (v := 1) f30_23 (by decide) ?_
      refine w_cV f30_24 (Or.inl rfl) rfl (by omega) (okd_of (by assumption)) rfl ⟨Nat.le_of_ble_eq_true rfl, rfl, Nat.le_of_ble_eq_true rfl⟩ (en24 _ _) (s24) (pv24 _ _) ?_
      refine w_ret f30_27 rfl ?_
      first | exact Or.inl ⟨⟨by assumption, by assumption⟩, h1, q1, rfl⟩ | exact Or.inr ⟨by omega, rfl⟩
    · refine w_aloadn f30_15 rfl (by omega) ?_
      refine w_qV f30_16 (Or.inl rfl) rfl (by omega) (okd_of (by assumption)) rfl ⟨Nat.le_of_ble_eq_true rfl, rfl, Nat.le_of_ble_eq_true rfl⟩ (en25 _) (s25p hP) (fun o9 ho9 => ?_)
      obtain ⟨h1, q1, rfl⟩ := ho9
      refine w_bok (pv25 _ _) ?_
      refine w_goto (t := 27) f30_19 (by decide) ?_
      refine w_ret f30_27 rfl ?_
      first | exact Or.inl ⟨⟨by assumption, by assumption⟩, h1, q1, rfl⟩ | exact Or.inr ⟨by omega, rfl⟩
theorem s31 {T : Tk} (hP : PT h b n T) : ev 31 0 [AR 2] [] (KS r d, h, R) = some (.inl (AI (b2i (h 2 6 = 0 ∧ isN T))), (KS r d, if h 2 6 = 0 ∧ isN T then h else fle h 1, R)) := by
  refine Rn.eq ?_
  have k0 := @kd_2 r d
  obtain ⟨⟨a1, a2, a3, -⟩, ⟨a4, a5, a6, -⟩, a10, a11, a12⟩ := hP
  refine w_aloadn f31_0 rfl (by omega) ?_
  refine w_getI f31_1 (by decide) (by assumption) (by (try simp only [hput, hcopy, Nat.reduceEqDiff, Nat.add_left_cancel_iff, Nat.add_right_cancel_iff, Nat.left_eq_add, Nat.add_eq_left, Nat.right_eq_add, Nat.add_eq_right, Nat.reduceAdd, Nat.add_zero, Nat.succ_ne_self, Nat.one_ne_zero, Nat.zero_ne_one, eq_self, and_self, and_true, true_and, and_false, false_and, if_true, if_false, reduceIte, Int.reduceToNat, Int.toNat_natCast, a4, a5, a6]); exact rfl) ?_
  refine w_if_ne (t := 31) f31_4 (by decide) (fun c1 => ?_) (fun c1 => ?_)
  · refine w_aloadn f31_31 rfl (by omega) ?_
    refine w_iconst (v := 1) f31_32 (by decide) ?_
    refine w_cV f31_33 (Or.inl rfl) rfl (by omega) (okd_of (by assumption)) rfl ⟨Nat.le_of_ble_eq_true rfl, rfl, Nat.le_of_ble_eq_true rfl⟩ (en24 _ _) (s24) (pv24 _ _) ?_
    refine w_iconst (v := 0) f31_36 (by decide) ?_
    refine w_zret f31_37 rfl (by decide) ?_
    by_cases q : h 2 6 = 0 ∧ isN T
    · first | (exfalso; unfold isN at q; omega) | (rw [if_pos q]; exact ob_t q)
    · first | (exfalso; unfold isN at q; omega) | (rw [if_neg q]; exact ob_f q)
  · refine w_aloadn f31_7 rfl (by omega) ?_
    refine w_getI f31_8 (by decide) (by assumption) (by (try simp only [hput, hcopy, Nat.reduceEqDiff, Nat.add_left_cancel_iff, Nat.add_right_cancel_iff, Nat.left_eq_add, Nat.add_eq_left, Nat.right_eq_add, Nat.add_eq_right, Nat.reduceAdd, Nat.add_zero, Nat.succ_ne_self, Nat.one_ne_zero, Nat.zero_ne_one, eq_self, and_self, and_true, true_and, and_false, false_and, if_true, if_false, reduceIte, Int.reduceToNat, Int.toNat_natCast, a4, a5, a6]); exact rfl) ?_
    refine w_iconst (v := 1) f31_11 (by decide) ?_
    refine w_ic_ne (t := 31) f31_12 (by decide) (fun c2 => ?_) (fun c2 => ?_)
    · refine w_aloadn f31_31 rfl (by omega) ?_
      refine w_iconst (v := 1) f31_32 (by decide) ?_
      refine w_cV f31_33 (Or.inl rfl) rfl (by omega) (okd_of (by assumption)) rfl ⟨Nat.le_of_ble_eq_true rfl, rfl, Nat.le_of_ble_eq_true rfl⟩ (en24 _ _) (s24) (pv24 _ _) ?_
      refine w_iconst (v := 0) f31_36 (by decide) ?_
      refine w_zret f31_37 rfl (by decide) ?_
      by_cases q : h 2 6 = 0 ∧ isN T
      · first | (exfalso; unfold isN at q; omega) | (rw [if_pos q]; exact ob_t q)
      · first | (exfalso; unfold isN at q; omega) | (rw [if_neg q]; exact ob_f q)
    · refine w_aloadn f31_15 rfl (by omega) ?_
      refine w_getI f31_16 (by decide) (by assumption) (by (try simp only [hput, hcopy, Nat.reduceEqDiff, Nat.add_left_cancel_iff, Nat.add_right_cancel_iff, Nat.left_eq_add, Nat.add_eq_left, Nat.right_eq_add, Nat.add_eq_right, Nat.reduceAdd, Nat.add_zero, Nat.succ_ne_self, Nat.one_ne_zero, Nat.zero_ne_one, eq_self, and_self, and_true, true_and, and_false, false_and, if_true, if_false, reduceIte, Int.reduceToNat, Int.toNat_natCast, a4, a5, a6]); exact rfl) ?_
      refine w_aloadn f31_19 rfl (by omega) ?_
      refine w_getI f31_20 (by decide) (by assumption) (by (try simp only [hput, hcopy, Nat.reduceEqDiff, Nat.add_left_cancel_iff, Nat.add_right_cancel_iff, Nat.left_eq_add, Nat.add_eq_left, Nat.right_eq_add, Nat.add_eq_right, Nat.reduceAdd, Nat.add_zero, Nat.succ_ne_self, Nat.one_ne_zero, Nat.zero_ne_one, eq_self, and_self, and_true, true_and, and_false, false_and, if_true, if_false, reduceIte, Int.reduceToNat, Int.toNat_natCast, a4, a5, a6]); exact rfl) ?_
      refine w_isubn f31_23 (by omega) ?_
      refine w_bipush (v := 6) f31_24 (by decide) ?_
      refine w_ic_gt (t := 31) f31_26 (by decide) (fun c3 => ?_) (fun c3 => ?_)
      · refine w_aloadn f31_31 rfl (by omega) ?_
        refine w_iconst (v := 1) f31_32 (by decide) ?_
        refine w_cV f31_33 (Or.inl rfl) rfl (by omega) (okd_of (by assumption)) rfl ⟨Nat.le_of_ble_eq_true rfl, rfl, Nat.le_of_ble_eq_true rfl⟩ (en24 _ _) (s24) (pv24 _ _) ?_
        refine w_iconst (v := 0) f31_36 (by decide) ?_
        refine w_zret f31_37 rfl (by decide) ?_
        by_cases q : h 2 6 = 0 ∧ isN T
        · first | (exfalso; unfold isN at q; omega) | (rw [if_pos q]; exact ob_t q)
        · first | (exfalso; unfold isN at q; omega) | (rw [if_neg q]; exact ob_f q)
      · refine w_iconst (v := 1) f31_29 (by decide) ?_
        refine w_zret f31_30 rfl (by decide) ?_
        by_cases q : h 2 6 = 0 ∧ isN T
        · first | (exfalso; unfold isN at q; omega) | (rw [if_pos q]; exact ob_t q)
        · first | (exfalso; unfold isN at q; omega) | (rw [if_neg q]; exact ob_f q)
theorem s34 {T : Tk} (hP : PT h b n T) : Rn (ev 34 0 [AR 2, AU] [] (KS r d, h, R)) (fun o => ((h 2 6 = 0 ∧ T.2.2.2 = 2 ∧ T.2.2.1 ≤ 9) ∧ ∃ h1, (TcF h h1 ∧ PT h1 b n (tok b n T.2.1)) ∧ o = (.inl (AI T.2.2.1), (KS r d, h1, R))) ∨ ((h 2 6 = 0 ∧ T.2.2.2 = 2 ∧ 9 < T.2.2.1) ∧ o = (.inl (AI (-1)), (KS r d, fle h 2, R))) ∨ (¬ (h 2 6 = 0 ∧ T.2.2.2 = 2) ∧ o = (.inl (AI (-1)), (KS r d, fle h 1, R)))) := by
  have k0 := @kd_2 r d
  have a6 := hP.2.1.2.2.1
  have a7 := hP.2.1.2.2.2
  refine w_aloadn f34_0 rfl (by omega) ?_
  refine w_getI f34_1 (by decide) (by assumption) (by (try simp only [hput, hcopy, Nat.reduceEqDiff, Nat.add_left_cancel_iff, Nat.add_right_cancel_iff, Nat.left_eq_add, Nat.add_eq_left, Nat.right_eq_add, Nat.add_eq_right, Nat.reduceAdd, Nat.add_zero, Nat.succ_ne_self, Nat.one_ne_zero, Nat.zero_ne_one, eq_self, and_self, and_true, true_and, and_false, false_and, if_true, if_false, reduceIte, Int.reduceToNat, Int.toNat_natCast, a6]); exact rfl) ?_
  refine w_if_ne (t := 15) f34_4 (by decide) (fun c1 => ?_) (fun c1 => ?_)
  · refine w_aloadn f34_15 rfl (by omega) ?_
    refine w_iconst (v := 1) f34_16 (by decide) ?_
    refine w_cV f34_17 (Or.inl rfl) rfl (by omega) (okd_of (by assumption)) rfl ⟨Nat.le_of_ble_eq_true rfl, rfl, Nat.le_of_ble_eq_true rfl⟩ (en24 _ _) (s24) (pv24 _ _) ?_
    refine w_iconst (v := -1) f34_20 (by decide) ?_
    refine w_iret f34_21 rfl ?_
    first | (rw [a8]; exact Or.inl ⟨⟨by assumption, c8, by omega⟩, h1, q1, rfl⟩) | (refine Or.inr (Or.inl ⟨⟨?_, c8, ?_⟩, rfl⟩); assumption; omega; done) | (refine Or.inr (Or.inr ⟨?_, rfl⟩); omega; done)
  · refine w_aloadn f34_7 rfl (by omega) ?_
    refine w_getI f34_8 (by decide) (by assumption) (by (try simp only [hput, hcopy, Nat.reduceEqDiff, Nat.add_left_cancel_iff, Nat.add_right_cancel_iff, Nat.left_eq_add, Nat.add_eq_left, Nat.right_eq_add, Nat.add_eq_right, Nat.reduceAdd, Nat.add_zero, Nat.succ_ne_self, Nat.one_ne_zero, Nat.zero_ne_one, eq_self, and_self, and_true, true_and, and_false, false_and, if_true, if_false, reduceIte, Int.reduceToNat, Int.toNat_natCast, a6]); exact rfl) ?_
    refine w_iconst (v := 2) f34_11 (by decide) ?_
    refine w_ic_eq (t := 22) f34_12 (by decide) (fun c2 => ?_) (fun c2 => ?_)
    · have a8 := a7 (by assumption)
      have c8 : T.2.2.2 = 2 := by assumption
      refine w_aloadn f34_22 rfl (by omega) ?_
      refine w_getI f34_23 (by decide) (by assumption) (by (try simp only [hput, hcopy, Nat.reduceEqDiff, Nat.add_left_cancel_iff, Nat.add_right_cancel_iff, Nat.left_eq_add, Nat.add_eq_left, Nat.right_eq_add, Nat.add_eq_right, Nat.reduceAdd, Nat.add_zero, Nat.succ_ne_self, Nat.one_ne_zero, Nat.zero_ne_one, eq_self, and_self, and_true, true_and, and_false, false_and, if_true, if_false, reduceIte, Int.reduceToNat, Int.toNat_natCast, a6]); exact rfl) ?_
      refine w_bipush (v := 9) f34_26 (by decide) ?_
      refine w_ic_le (t := 38) f34_28 (by decide) (fun c3 => ?_) (fun c3 => ?_)
      · refine w_aloadn f34_38 rfl (by omega) ?_
        refine w_getI f34_39 (by decide) (by assumption) (by (try simp only [hput, hcopy, Nat.reduceEqDiff, Nat.add_left_cancel_iff, Nat.add_right_cancel_iff, Nat.left_eq_add, Nat.add_eq_left, Nat.right_eq_add, Nat.add_eq_right, Nat.reduceAdd, Nat.add_zero, Nat.succ_ne_self, Nat.one_ne_zero, Nat.zero_ne_one, eq_self, and_self, and_true, true_and, and_false, false_and, if_true, if_false, reduceIte, Int.reduceToNat, Int.toNat_natCast, a6]); exact rfl) ?_
        refine w_istoren f34_42 (Nat.le_of_ble_eq_true rfl) (sto_2_1 rfl) ?_
        refine w_aloadn f34_43 rfl (by omega) ?_
        refine w_qV f34_44 (Or.inl rfl) rfl (by omega) (okd_of (by assumption)) rfl ⟨Nat.le_of_ble_eq_true rfl, rfl, Nat.le_of_ble_eq_true rfl⟩ (en25 _) (s25p hP) (fun o9 ho9 => ?_)
        obtain ⟨h1, q1, rfl⟩ := ho9
        refine w_bok (pv25 _ _) ?_
        refine w_iloadn f34_47 rfl ?_
        refine w_iret f34_48 rfl ?_
        first | (rw [a8]; exact Or.inl ⟨⟨by assumption, c8, by omega⟩, h1, q1, rfl⟩) | (refine Or.inr (Or.inl ⟨⟨?_, c8, ?_⟩, rfl⟩); assumption; omega; done) | (refine Or.inr (Or.inr ⟨?_, rfl⟩); omega; done)
      · refine w_aloadn f34_31 rfl (by omega) ?_
        refine w_iconst (v := 2) f34_32 (by decide) ?_
        refine w_cV f34_33 (Or.inl rfl) rfl (by omega) (okd_of (by assumption)) rfl ⟨Nat.le_of_ble_eq_true rfl, rfl, Nat.le_of_ble_eq_true rfl⟩ (en24 _ _) (s24) (pv24 _ _) ?_
        refine w_iconst (v := -1) f34_36 (by decide) ?_
        refine w_iret f34_37 rfl ?_
        first | (rw [a8]; exact Or.inl ⟨⟨by assumption, c8, by omega⟩, h1, q1, rfl⟩) | (refine Or.inr (Or.inl ⟨⟨?_, c8, ?_⟩, rfl⟩); assumption; omega; done) | (refine Or.inr (Or.inr ⟨?_, rfl⟩); omega; done)
    · refine w_aloadn f34_15 rfl (by omega) ?_
      refine w_iconst (v := 1) f34_16 (by decide) ?_
      refine w_cV f34_17 (Or.inl rfl) rfl (by omega) (okd_of (by assumption)) rfl ⟨Nat.le_of_ble_eq_true rfl, rfl, Nat.le_of_ble_eq_true rfl⟩ (en24 _ _) (s24) (pv24 _ _) ?_
      refine w_iconst (v := -1) f34_20 (by decide) ?_
      refine w_iret f34_21 rfl ?_
      first | (rw [a8]; exact Or.inl ⟨⟨by assumption, c8, by omega⟩, h1, q1, rfl⟩) | (refine Or.inr (Or.inl ⟨⟨?_, c8, ?_⟩, rfl⟩); assumption; omega; done) | (refine Or.inr (Or.inr ⟨?_, rfl⟩); omega; done)
end A

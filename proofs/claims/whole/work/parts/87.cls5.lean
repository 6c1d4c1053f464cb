/-! the class's reading: fail, sees -/
section A
variable {K : List AKd} {h : Nat → Nat → Int} {R : R4} {σ : Sg} {r d : Nat} {w : Nat → Int} {b : Nat → Int} {n : Int}
/-- the class has failed -/
def fle (h : Nat → Nat → Int) (c : Int) : Nat → Nat → Int := if h 2 6 = 0 then hput (hput h 2 6 c) 2 7 (h 2 3) else h
theorem s24 {c : Int} : ev 24 0 [AR 2, AI c] [] (KS r d, h, R) = some (.inl AU, (KS r d, fle h c, R)) := by
  refine Rn.eq ?_
  have k0 := @kd_2 r d
  refine w_aloadn f24_0 rfl (by omega) ?_
  refine w_getI f24_1 (by decide) (by assumption) (by (try simp only [hput, hcopy, Nat.reduceEqDiff, Nat.add_left_cancel_iff, Nat.add_right_cancel_iff, Nat.left_eq_add, Nat.add_eq_left, Nat.right_eq_add, Nat.add_eq_right, Nat.reduceAdd, Nat.add_zero, Nat.succ_ne_self, Nat.one_ne_zero, Nat.zero_ne_one, eq_self, and_self, and_true, true_and, and_false, false_and, if_true, if_false, reduceIte, Int.reduceToNat, Int.toNat_natCast]); exact rfl) ?_
  refine w_if_ne (t := 20) f24_4 (by decide) (fun c1 => ?_) (fun c1 => ?_)
  · refine w_ret f24_20 rfl ?_
    unfold fle; first | (rw [if_pos (by assumption)]; done) | (rw [if_neg (by assumption)]; done)
  · refine w_aloadn f24_7 rfl (by omega) ?_
    refine w_iloadn f24_8 rfl ?_
    refine w_putI f24_9 (by assumption) ?_
    refine w_aloadn f24_12 rfl (by omega) ?_
    refine w_aloadn f24_13 rfl (by omega) ?_
    refine w_getI f24_14 (by decide) (by assumption) (by (try simp only [hput, hcopy, Nat.reduceEqDiff, Nat.add_left_cancel_iff, Nat.add_right_cancel_iff, Nat.left_eq_add, Nat.add_eq_left, Nat.right_eq_add, Nat.add_eq_right, Nat.reduceAdd, Nat.add_zero, Nat.succ_ne_self, Nat.one_ne_zero, Nat.zero_ne_one, eq_self, and_self, and_true, true_and, and_false, false_and, if_true, if_false, reduceIte, Int.reduceToNat, Int.toNat_natCast]); exact rfl) ?_
    refine w_putI f24_17 (by assumption) ?_
    refine w_ret f24_20 rfl ?_
    unfold fle; first | (rw [if_pos (by assumption)]; done) | (rw [if_neg (by assumption)]; done)
/-- the class's text, at a token -/
def PT (h : Nat → Nat → Int) (b : Nat → Int) (n : Int) (T : Tk) : Prop := (h 3 = b ∧ h 2 1 = n ∧ n ≤ 700 ∧ ∀ y, 0 ≤ b y) ∧ TkC h T ∧ TR T
theorem l26 {t : Nat} {T : Tk} (ht : t < am_txt.length) (hP : PT h b n T) (hl : T.2.1 - T.1 = ((text (t + 1)).length : Int)) : ∀ (f : Nat) (k : Int), 0 ≤ k → k + f = ((text (t + 1)).length : Int) → ev 26 35 [AR 2, AS (t + 1), AI k] [] (KS r d, h, R) = some (.inl (AI (b2i (eqG b T.1 (text (t + 1)) f k = true))), (KS r d, h, R)) := by
  intro f
  have k0 := @kd_2 r d
  have k1 := @kd_3 r d
  obtain ⟨⟨a1, a2, a3, -⟩, ⟨a4, a5, a6, -⟩, a10, a11, a12⟩ := hP
  induction f with
  | zero =>
    intro k h1 h2
    refine Rn.eq ?_
    refine w_iloadn f26_35 rfl ?_
    refine w_aloadns f26_36 rfl ?_
    refine w_tlen f26_37 (Nat.le_of_ble_eq_true rfl) (by omega) ?_
    refine w_ic_ge (t := 70) f26_40 (by decide) (fun c1 => ?_) (fun c1 => by omega)
    refine w_iconst (v := 1) f26_70 (by decide) ?_
    refine w_zret f26_71 rfl (by decide) ?_
    exact ob_t rfl
  | succ f ih =>
    intro k h1 h2
    refine Rn.eq ?_
    refine w_iloadn f26_35 rfl ?_
    refine w_aloadns f26_36 rfl ?_
    refine w_tlen f26_37 (Nat.le_of_ble_eq_true rfl) (by omega) ?_
    refine w_ic_ge (t := 70) f26_40 (by decide) (fun c1 => by omega) (fun c1 => ?_)
    refine w_aloadn f26_43 rfl (by omega) ?_
    refine w_getR f26_44 (by assumption) rfl (by omega) ?_
    refine w_aloadn f26_47 rfl (by omega) ?_
    refine w_getI f26_48 (by decide) (by assumption) (by (try simp only [hput, hcopy, Nat.reduceEqDiff, Nat.add_left_cancel_iff, Nat.add_right_cancel_iff, Nat.left_eq_add, Nat.add_eq_left, Nat.right_eq_add, Nat.add_eq_right, Nat.reduceAdd, Nat.add_zero, Nat.succ_ne_self, Nat.one_ne_zero, Nat.zero_ne_one, eq_self, and_self, and_true, true_and, and_false, false_and, if_true, if_false, reduceIte, Int.reduceToNat, Int.toNat_natCast, a4, a1]); exact rfl) ?_
    refine w_iloadn f26_51 rfl ?_
    refine w_iaddn f26_52 (by omega) ?_
    refine w_iald f26_53 (by assumption) (by omega) (by (try simp only [hput, hcopy, Nat.reduceEqDiff, Nat.add_left_cancel_iff, Nat.add_right_cancel_iff, Nat.left_eq_add, Nat.add_eq_left, Nat.right_eq_add, Nat.add_eq_right, Nat.reduceAdd, Nat.add_zero, Nat.succ_ne_self, Nat.one_ne_zero, Nat.zero_ne_one, eq_self, and_self, and_true, true_and, and_false, false_and, if_true, if_false, reduceIte, Int.reduceToNat, Int.toNat_natCast, a4, a1]); exact rfl) ?_
    refine w_aloadns f26_54 rfl ?_
    refine w_iloadn f26_55 rfl ?_
    refine w_tchar f26_56 (Nat.le_of_ble_eq_true rfl) (by omega) (by omega) rfl ?_
    refine w_ic_eq (t := 64) f26_59 (by decide) (fun c2 => ?_) (fun c2 => ?_)
    · refine w_iincn f26_64 rfl (by omega) (sto_3_2 rfl) ?_
      refine w_goto (t := 35) f26_67 (by decide) ?_
      refine Rn.to (ih _ (by omega) (by omega)) (ob_b ?_)
      simp only [eqG, Bool.and_eq_true, decide_eq_true_eq]
      exact ⟨fun z => ⟨c2, z⟩, fun z => z.2⟩
    · refine w_iconst (v := 0) f26_62 (by decide) ?_
      refine w_zret f26_63 rfl (by decide) ?_
      exact ob_f (fun z => by simp only [eqG, Bool.and_eq_true, decide_eq_true_eq] at z; exact absurd z.1 c2)
theorem s26 {t : Nat} {T : Tk} (ht : t < am_txt.length) (hP : PT h b n T) : ev 26 0 [AR 2, AS (t + 1), AU] [] (KS r d, h, R) = some (.inl (AI (b2i (h 2 6 = 0 ∧ isW b T (text (t + 1)) = true))), (KS r d, h, R)) := by
  refine Rn.eq ?_
  have k0 := @kd_2 r d
  have hP1 := hP
  obtain ⟨⟨a1, a2, a3, -⟩, ⟨a4, a5, a6, -⟩, a10, a11, a12⟩ := hP
  refine w_aloadn f26_0 rfl (by omega) ?_
  refine w_getI f26_1 (by decide) (by assumption) (by (try simp only [hput, hcopy, Nat.reduceEqDiff, Nat.add_left_cancel_iff, Nat.add_right_cancel_iff, Nat.left_eq_add, Nat.add_eq_left, Nat.right_eq_add, Nat.add_eq_right, Nat.reduceAdd, Nat.add_zero, Nat.succ_ne_self, Nat.one_ne_zero, Nat.zero_ne_one, eq_self, and_self, and_true, true_and, and_false, false_and, if_true, if_false, reduceIte, Int.reduceToNat, Int.toNat_natCast, a4, a5, a6]); exact rfl) ?_
  refine w_if_ne (t := 31) f26_4 (by decide) (fun c1 => ?_) (fun c1 => ?_)
  · refine w_iconst (v := 0) f26_31 (by decide) ?_
    refine w_zret f26_32 rfl (by decide) ?_
    exact ob_f (fun z => by simp only [isW, Bool.and_eq_true, decide_eq_true_eq] at z; omega)
  · refine w_aloadn f26_7 rfl (by omega) ?_
    refine w_getI f26_8 (by decide) (by assumption) (by (try simp only [hput, hcopy, Nat.reduceEqDiff, Nat.add_left_cancel_iff, Nat.add_right_cancel_iff, Nat.left_eq_add, Nat.add_eq_left, Nat.right_eq_add, Nat.add_eq_right, Nat.reduceAdd, Nat.add_zero, Nat.succ_ne_self, Nat.one_ne_zero, Nat.zero_ne_one, eq_self, and_self, and_true, true_and, and_false, false_and, if_true, if_false, reduceIte, Int.reduceToNat, Int.toNat_natCast, a4, a5, a6]); exact rfl) ?_
    refine w_iconst (v := 1) f26_11 (by decide) ?_
    refine w_ic_ne (t := 31) f26_12 (by decide) (fun c2 => ?_) (fun c2 => ?_)
    · refine w_iconst (v := 0) f26_31 (by decide) ?_
      refine w_zret f26_32 rfl (by decide) ?_
      exact ob_f (fun z => by simp only [isW, Bool.and_eq_true, decide_eq_true_eq] at z; omega)
    · refine w_aloadn f26_15 rfl (by omega) ?_
      refine w_getI f26_16 (by decide) (by assumption) (by (try simp only [hput, hcopy, Nat.reduceEqDiff, Nat.add_left_cancel_iff, Nat.add_right_cancel_iff, Nat.left_eq_add, Nat.add_eq_left, Nat.right_eq_add, Nat.add_eq_right, Nat.reduceAdd, Nat.add_zero, Nat.succ_ne_self, Nat.one_ne_zero, Nat.zero_ne_one, eq_self, and_self, and_true, true_and, and_false, false_and, if_true, if_false, reduceIte, Int.reduceToNat, Int.toNat_natCast, a4, a5, a6]); exact rfl) ?_
      refine w_aloadn f26_19 rfl (by omega) ?_
      refine w_getI f26_20 (by decide) (by assumption) (by (try simp only [hput, hcopy, Nat.reduceEqDiff, Nat.add_left_cancel_iff, Nat.add_right_cancel_iff, Nat.left_eq_add, Nat.add_eq_left, Nat.right_eq_add, Nat.add_eq_right, Nat.reduceAdd, Nat.add_zero, Nat.succ_ne_self, Nat.one_ne_zero, Nat.zero_ne_one, eq_self, and_self, and_true, true_and, and_false, false_and, if_true, if_false, reduceIte, Int.reduceToNat, Int.toNat_natCast, a4, a5, a6]); exact rfl) ?_
      refine w_isubn f26_23 (by omega) ?_
      refine w_aloadns f26_24 rfl ?_
      refine w_tlen f26_25 (Nat.le_of_ble_eq_true rfl) (by omega) ?_
      refine w_ic_eq (t := 33) f26_28 (by decide) (fun c3 => ?_) (fun c3 => ?_)
      · refine w_iconst (v := 0) f26_33 (by decide) ?_
        refine w_istoren f26_34 (Nat.le_of_ble_eq_true rfl) (sto_3_2 rfl) ?_
        refine Rn.to (l26 ht hP1 (by assumption) (text (t + 1)).length 0 (by omega) (by omega)) (ob_b ?_)
        simp only [isW, Bool.and_eq_true, decide_eq_true_eq]
        exact ⟨fun z => ⟨by omega, ⟨by omega, by assumption⟩, z⟩, fun z => z.2.2⟩
      · refine w_iconst (v := 0) f26_31 (by decide) ?_
        refine w_zret f26_32 rfl (by decide) ?_
        exact ob_f (fun z => by simp only [isW, Bool.and_eq_true, decide_eq_true_eq] at z; omega)
end A

/-! the reference's first machine -/
section A
variable {K : List AKd} {h : Nat → Nat → Int} {R : R4} {σ : Sg} {r d : Nat} {w : Nat → Int}
theorem n152l : ∀ (f : Nat) (k : Int) (h0 h : Nat → Nat → Int) (u : Nat → Int), 0 ≤ k → k + f = 504 → Ch h0 (zr u 0 k.toNat) h → Rn (ev 152 2 [AR 268, AI k] [] (KS r d, h, R)) (fun o => ∃ h1, Ch h0 (zr u 0 504) h1 ∧ o = (.inl AU, (KS r d, h1, R))) := by
  intro f
  have k0 := @kd_268 r d
  have k1 := @kd_269 r d
  induction f with
  | zero =>
    intro k h0 h u h1 h2 hP
    have e : k = 504 := by omega
    subst e
    refine w_iloadn f152_2 rfl ?_
    refine w_sipush (v := 504) f152_3 (by decide) ?_
    refine w_ic_ge (t := 22) f152_6 (by decide) (fun c1 => ?_) (fun c1 => by omega)
    refine w_ret f152_22 rfl ?_
    exact ⟨h, hP, rfl⟩
  | succ f ih =>
    intro k h0 h u h1 h2 hP
    have hQ := hP.put (j := k.toNat) (v := 0)
    have e : udI (zr u 0 k.toNat) k.toNat 0 = zr u 0 (k + 1).toNat := (zr_up (by omega)).trans (by rw [show (k + 1).toNat = k.toNat + 1 by omega])
    have hQ2 : Ch h0 (zr u 0 (k + 1).toNat) (hput h 269 k.toNat 0) := e ▸ hQ
    refine w_iloadn f152_2 rfl ?_
    refine w_sipush (v := 504) f152_3 (by decide) ?_
    refine w_ic_ge (t := 22) f152_6 (by decide) (fun c1 => by omega) (fun c1 => ?_)
    refine w_aloadn f152_9 rfl (by omega) ?_
    refine w_getR f152_10 (by assumption) rfl (by omega) ?_
    refine w_iloadn f152_13 rfl ?_
    refine w_iconst (v := 0) f152_14 (by decide) ?_
    refine w_iast f152_15 (by assumption) (by omega) ?_
    refine w_iincn f152_16 rfl (by omega) (sto_2_1 rfl) ?_
    refine w_goto (t := 2) f152_19 (by decide) ?_
    exact ih _ _ _ _ (by omega) (by omega) hQ2
theorem n152 (hw : h 269 = w) : Rn (ev 152 0 [AR 268, AU] [] (KS r d, h, R)) (fun o => ∃ h1, Ch h (zr w 0 504) h1 ∧ o = (.inl AU, (KS r d, h1, R))) := by
  refine w_iconst (v := 0) f152_0 (by decide) ?_
  refine w_istoren f152_1 (Nat.le_of_ble_eq_true rfl) (sto_2_1 rfl) ?_
  exact n152l 504 0 h h w (by omega) (by omega) (by rw [show (0 : Int).toNat = 0 from rfl, zr_0]; exact Ch.rf hw)
def nmK (w : Nat → Int) (a x1 x2 x3 x4 x5 : Int) : Nat → Int := udI (udI (udI (udI (udI (udI w a.toNat (if x5 = 0 then 4 else 5)) (a + 1).toNat x1) (a + 2).toNat x2) (a + 3).toNat x3) (a + 4).toNat x4) (a + 5).toNat x5
theorem n153 {a x1 x2 x3 x4 x5 : Int} (hw : h 269 = w) (ha : 0 ≤ a ∧ a ≤ 490) : Rn (ev 153 0 [AR 268, AI a, AI x1, AI x2, AI x3, AI x4, AI x5] [] (KS r d, h, R)) (fun o => ∃ h1, Ch h (nmK w a x1 x2 x3 x4 x5) h1 ∧ o = (.inl AU, (KS r d, h1, R))) := by
  have k0 := @kd_268 r d
  have k1 := @kd_269 r d
  unfold nmK
  refine w_aloadn f153_0 rfl (by omega) ?_
  refine w_getR f153_1 (by assumption) rfl (by omega) ?_
  refine w_iloadn f153_4 rfl ?_
  refine w_iload f153_5 rfl ?_
  refine w_if_ne (t := 14) f153_7 (by decide) (fun c1 => ?_) (fun c1 => ?_)
  · refine w_iconst (v := 5) f153_14 (by decide) ?_
    refine w_iast f153_15 (by assumption) (by omega) ?_
    refine w_aloadn f153_16 rfl (by omega) ?_
    refine w_getR f153_17 (by assumption) rfl (by omega) ?_
    refine w_iloadn f153_20 rfl ?_
    refine w_iconst (v := 1) f153_21 (by decide) ?_
    refine w_iaddn f153_22 (by omega) ?_
    refine w_iloadn f153_23 rfl ?_
    refine w_iast f153_24 (by assumption) (by omega) ?_
    refine w_aloadn f153_25 rfl (by omega) ?_
    refine w_getR f153_26 (by assumption) rfl (by omega) ?_
    refine w_iloadn f153_29 rfl ?_
    refine w_iconst (v := 2) f153_30 (by decide) ?_
    refine w_iaddn f153_31 (by omega) ?_
    refine w_iloadn f153_32 rfl ?_
    refine w_iast f153_33 (by assumption) (by omega) ?_
    refine w_aloadn f153_34 rfl (by omega) ?_
    refine w_getR f153_35 (by assumption) rfl (by omega) ?_
    refine w_iloadn f153_38 rfl ?_
    refine w_iconst (v := 3) f153_39 (by decide) ?_
    refine w_iaddn f153_40 (by omega) ?_
    refine w_iload f153_41 rfl ?_
    refine w_iast f153_43 (by assumption) (by omega) ?_
    refine w_aloadn f153_44 rfl (by omega) ?_
    refine w_getR f153_45 (by assumption) rfl (by omega) ?_
    refine w_iloadn f153_48 rfl ?_
    refine w_iconst (v := 4) f153_49 (by decide) ?_
    refine w_iaddn f153_50 (by omega) ?_
    refine w_iload f153_51 rfl ?_
    refine w_iast f153_53 (by assumption) (by omega) ?_
    refine w_aloadn f153_54 rfl (by omega) ?_
    refine w_getR f153_55 (by assumption) rfl (by omega) ?_
    refine w_iloadn f153_58 rfl ?_
    refine w_iconst (v := 5) f153_59 (by decide) ?_
    refine w_iaddn f153_60 (by omega) ?_
    refine w_iload f153_61 rfl ?_
    refine w_iast f153_63 (by assumption) (by omega) ?_
    refine w_ret f153_64 rfl ?_
    first | (rw [if_pos (show x5 = 0 by assumption)]; exact ⟨_, (Ch.rf hw).put.put.put.put.put.put, rfl⟩) | (rw [if_neg (show ¬ x5 = 0 by assumption)]; exact ⟨_, (Ch.rf hw).put.put.put.put.put.put, rfl⟩)
  · refine w_iconst (v := 4) f153_10 (by decide) ?_
    refine w_goto (t := 15) f153_11 (by decide) ?_
    refine w_iast f153_15 (by assumption) (by omega) ?_
    refine w_aloadn f153_16 rfl (by omega) ?_
    refine w_getR f153_17 (by assumption) rfl (by omega) ?_
    refine w_iloadn f153_20 rfl ?_
    refine w_iconst (v := 1) f153_21 (by decide) ?_
    refine w_iaddn f153_22 (by omega) ?_
    refine w_iloadn f153_23 rfl ?_
    refine w_iast f153_24 (by assumption) (by omega) ?_
    refine w_aloadn f153_25 rfl (by omega) ?_
    refine w_getR f153_26 (by assumption) rfl (by omega) ?_
    refine w_iloadn f153_29 rfl ?_
    refine w_iconst (v := 2) f153_30 (by decide) ?_
    refine w_iaddn f153_31 (by omega) ?_
    refine w_iloadn f153_32 rfl ?_
    refine w_iast f153_33 (by assumption) (by omega) ?_
    refine w_aloadn f153_34 rfl (by omega) ?_
    refine w_getR f153_35 (by assumption) rfl (by omega) ?_
    refine w_iloadn f153_38 rfl ?_
    refine w_iconst (v := 3) f153_39 (by decide) ?_
    refine w_iaddn f153_40 (by omega) ?_
    refine w_iload f153_41 rfl ?_
    refine w_iast f153_43 (by assumption) (by omega) ?_
    refine w_aloadn f153_44 rfl (by omega) ?_
    refine w_getR f153_45 (by assumption) rfl (by omega) ?_
    refine w_iloadn f153_48 rfl ?_
    refine w_iconst (v := 4) f153_49 (by decide) ?_
    refine w_iaddn f153_50 (by omega) ?_
    refine w_iload f153_51 rfl ?_
    refine w_iast f153_53 (by assumption) (by omega) ?_
    refine w_aloadn f153_54 rfl (by omega) ?_
    refine w_getR f153_55 (by assumption) rfl (by omega) ?_
    refine w_iloadn f153_58 rfl ?_
    refine w_iconst (v := 5) f153_59 (by decide) ?_
    refine w_iaddn f153_60 (by omega) ?_
    refine w_iload f153_61 rfl ?_
    refine w_iast f153_63 (by assumption) (by omega) ?_
    refine w_ret f153_64 rfl ?_
    first | (rw [if_pos (show x5 = 0 by assumption)]; exact ⟨_, (Ch.rf hw).put.put.put.put.put.put, rfl⟩) | (rw [if_neg (show ¬ x5 = 0 by assumption)]; exact ⟨_, (Ch.rf hw).put.put.put.put.put.put, rfl⟩)
theorem n156 {x y z : Int} (hw : h 269 = w) (h3 : 0 ≤ w 3 ∧ w 3 ≤ 23) : Rn (ev 156 0 [AR 268, AI x, AI y, AI z, AU] [] (KS r d, h, R)) (fun o => ∃ h1, Ch h (ldW w x y z) h1 ∧ o = (.inl AU, (KS r d, h1, R))) := by
  have k0 := @kd_268 r d
  have k1 := @kd_269 r d
  have a3 : h 269 3 = w 3 := congrFun hw 3
  refine w_bipush (v := 93) f156_0 (by decide) ?_
  refine w_bipush (v := 9) f156_2 (by decide) ?_
  refine w_aloadn f156_4 rfl (by omega) ?_
  refine w_getR f156_5 (by assumption) rfl (by omega) ?_
  refine w_iconst (v := 3) f156_8 (by decide) ?_
  refine w_iald f156_9 (by assumption) (by omega) (by (try simp only [hput, hcopy, Nat.reduceEqDiff, Nat.add_left_cancel_iff, Nat.add_right_cancel_iff, Nat.left_eq_add, Nat.add_eq_left, Nat.right_eq_add, Nat.add_eq_right, Nat.reduceAdd, Nat.add_zero, Nat.succ_ne_self, Nat.one_ne_zero, Nat.zero_ne_one, eq_self, and_self, and_true, true_and, and_false, false_and, if_true, if_false, reduceIte, Int.reduceToNat, Int.toNat_natCast, a3]); exact rfl) ?_
  refine w_imuln f156_10 (by omega) ?_
  refine w_iaddn f156_11 (by omega) ?_
  refine w_istore f156_12 (Nat.le_of_ble_eq_true rfl) (sto_5_4 rfl) ?_
  refine w_aloadn f156_14 rfl (by omega) ?_
  refine w_getR f156_15 (by assumption) rfl (by omega) ?_
  refine w_iload f156_18 rfl ?_
  refine w_iconst (v := 0) f156_20 (by decide) ?_
  refine w_iaddn f156_21 (by omega) ?_
  refine w_iloadn f156_22 rfl ?_
  refine w_iast f156_23 (by assumption) (by omega) ?_
  refine w_aloadn f156_24 rfl (by omega) ?_
  refine w_getR f156_25 (by assumption) rfl (by omega) ?_
  refine w_iload f156_28 rfl ?_
  refine w_iconst (v := 1) f156_30 (by decide) ?_
  refine w_iaddn f156_31 (by omega) ?_
  refine w_iloadn f156_32 rfl ?_
  refine w_iast f156_33 (by assumption) (by omega) ?_
  refine w_aloadn f156_34 rfl (by omega) ?_
  refine w_getR f156_35 (by assumption) rfl (by omega) ?_
  refine w_iload f156_38 rfl ?_
  refine w_iconst (v := 2) f156_40 (by decide) ?_
  refine w_iaddn f156_41 (by omega) ?_
  refine w_iloadn f156_42 rfl ?_
  refine w_iast f156_43 (by assumption) (by omega) ?_
  refine w_aloadn f156_44 rfl (by omega) ?_
  refine w_getR f156_45 (by assumption) rfl (by omega) ?_
  refine w_iload f156_48 rfl ?_
  refine w_iconst (v := 3) f156_50 (by decide) ?_
  refine w_iaddn f156_51 (by omega) ?_
  refine w_iconst (v := -1) f156_52 (by decide) ?_
  refine w_iast f156_53 (by assumption) (by omega) ?_
  refine w_aloadn f156_54 rfl (by omega) ?_
  refine w_getR f156_55 (by assumption) rfl (by omega) ?_
  refine w_iload f156_58 rfl ?_
  refine w_bipush (v := 6) f156_60 (by decide) ?_
  refine w_iaddn f156_62 (by omega) ?_
  refine w_iconst (v := -1) f156_63 (by decide) ?_
  refine w_iast f156_64 (by assumption) (by omega) ?_
  refine w_aloadn f156_65 rfl (by omega) ?_
  refine w_getR f156_66 (by assumption) rfl (by omega) ?_
  refine w_iconst (v := 3) f156_69 (by decide) ?_
  refine w_dup2 f156_70 rfl ?_
  refine w_iald f156_71 (by assumption) (by omega) (by exact (hput_j (by show (3 : Nat) ≠ _; omega)).trans ((hput_j (by show (3 : Nat) ≠ _; omega)).trans ((hput_j (by show (3 : Nat) ≠ _; omega)).trans ((hput_j (by show (3 : Nat) ≠ _; omega)).trans ((hput_j (by show (3 : Nat) ≠ _; omega)).trans a3))))) ?_
  refine w_iconst (v := 1) f156_72 (by decide) ?_
  refine w_iaddn f156_73 (by omega) ?_
  refine w_iast f156_74 (by assumption) (by omega) ?_
  refine w_ret f156_75 rfl ?_
  exact ⟨_, (Ch.rf hw).put.put.put.put.put.put, rfl⟩
theorem n157 {x y z : Int} (hw : h 269 = w) (h3 : 1 ≤ w 3 ∧ w 3 ≤ 24) : Rn (ev 157 0 [AR 268, AI x, AI y, AI z, AU] [] (KS r d, h, R)) (fun o => ∃ h1, Ch h (gdW w x y z) h1 ∧ o = (.inl AU, (KS r d, h1, R))) := by
  have k0 := @kd_268 r d
  have k1 := @kd_269 r d
  have a3 : h 269 3 = w 3 := congrFun hw 3
  refine w_bipush (v := 93) f157_0 (by decide) ?_
  refine w_bipush (v := 9) f157_2 (by decide) ?_
  refine w_aloadn f157_4 rfl (by omega) ?_
  refine w_getR f157_5 (by assumption) rfl (by omega) ?_
  refine w_iconst (v := 3) f157_8 (by decide) ?_
  refine w_iald f157_9 (by assumption) (by omega) (by (try simp only [hput, hcopy, Nat.reduceEqDiff, Nat.add_left_cancel_iff, Nat.add_right_cancel_iff, Nat.left_eq_add, Nat.add_eq_left, Nat.right_eq_add, Nat.add_eq_right, Nat.reduceAdd, Nat.add_zero, Nat.succ_ne_self, Nat.one_ne_zero, Nat.zero_ne_one, eq_self, and_self, and_true, true_and, and_false, false_and, if_true, if_false, reduceIte, Int.reduceToNat, Int.toNat_natCast, a3]); exact rfl) ?_
  refine w_iconst (v := 1) f157_10 (by decide) ?_
  refine w_isubn f157_11 (by omega) ?_
  refine w_imuln f157_12 (by omega) ?_
  refine w_iaddn f157_13 (by omega) ?_
  refine w_istore f157_14 (Nat.le_of_ble_eq_true rfl) (sto_5_4 rfl) ?_
  refine w_aloadn f157_16 rfl (by omega) ?_
  refine w_getR f157_17 (by assumption) rfl (by omega) ?_
  refine w_iload f157_20 rfl ?_
  refine w_iconst (v := 3) f157_22 (by decide) ?_
  refine w_iaddn f157_23 (by omega) ?_
  refine w_iloadn f157_24 rfl ?_
  refine w_iast f157_25 (by assumption) (by omega) ?_
  refine w_aloadn f157_26 rfl (by omega) ?_
  refine w_getR f157_27 (by assumption) rfl (by omega) ?_
  refine w_iload f157_30 rfl ?_
  refine w_iconst (v := 4) f157_32 (by decide) ?_
  refine w_iaddn f157_33 (by omega) ?_
  refine w_iloadn f157_34 rfl ?_
  refine w_iast f157_35 (by assumption) (by omega) ?_
  refine w_aloadn f157_36 rfl (by omega) ?_
  refine w_getR f157_37 (by assumption) rfl (by omega) ?_
  refine w_iload f157_40 rfl ?_
  refine w_iconst (v := 5) f157_42 (by decide) ?_
  refine w_iaddn f157_43 (by omega) ?_
  refine w_iloadn f157_44 rfl ?_
  refine w_iast f157_45 (by assumption) (by omega) ?_
  refine w_ret f157_46 rfl ?_
  exact ⟨_, (Ch.rf hw).put.put.put, rfl⟩
theorem n158 {x y z : Int} (hw : h 269 = w) (h3 : 1 ≤ w 3 ∧ w 3 ≤ 24) : Rn (ev 158 0 [AR 268, AI x, AI y, AI z, AU] [] (KS r d, h, R)) (fun o => ∃ h1, Ch h (acsW w x y z) h1 ∧ o = (.inl AU, (KS r d, h1, R))) := by
  have k0 := @kd_268 r d
  have k1 := @kd_269 r d
  have a3 : h 269 3 = w 3 := congrFun hw 3
  refine w_bipush (v := 93) f158_0 (by decide) ?_
  refine w_bipush (v := 9) f158_2 (by decide) ?_
  refine w_aloadn f158_4 rfl (by omega) ?_
  refine w_getR f158_5 (by assumption) rfl (by omega) ?_
  refine w_iconst (v := 3) f158_8 (by decide) ?_
  refine w_iald f158_9 (by assumption) (by omega) (by (try simp only [hput, hcopy, Nat.reduceEqDiff, Nat.add_left_cancel_iff, Nat.add_right_cancel_iff, Nat.left_eq_add, Nat.add_eq_left, Nat.right_eq_add, Nat.add_eq_right, Nat.reduceAdd, Nat.add_zero, Nat.succ_ne_self, Nat.one_ne_zero, Nat.zero_ne_one, eq_self, and_self, and_true, true_and, and_false, false_and, if_true, if_false, reduceIte, Int.reduceToNat, Int.toNat_natCast, a3]); exact rfl) ?_
  refine w_iconst (v := 1) f158_10 (by decide) ?_
  refine w_isubn f158_11 (by omega) ?_
  refine w_imuln f158_12 (by omega) ?_
  refine w_iaddn f158_13 (by omega) ?_
  refine w_istore f158_14 (Nat.le_of_ble_eq_true rfl) (sto_5_4 rfl) ?_
  refine w_aloadn f158_16 rfl (by omega) ?_
  refine w_getR f158_17 (by assumption) rfl (by omega) ?_
  refine w_iload f158_20 rfl ?_
  refine w_bipush (v := 6) f158_22 (by decide) ?_
  refine w_iaddn f158_24 (by omega) ?_
  refine w_iloadn f158_25 rfl ?_
  refine w_iast f158_26 (by assumption) (by omega) ?_
  refine w_aloadn f158_27 rfl (by omega) ?_
  refine w_getR f158_28 (by assumption) rfl (by omega) ?_
  refine w_iload f158_31 rfl ?_
  refine w_bipush (v := 7) f158_33 (by decide) ?_
  refine w_iaddn f158_35 (by omega) ?_
  refine w_iloadn f158_36 rfl ?_
  refine w_iast f158_37 (by assumption) (by omega) ?_
  refine w_aloadn f158_38 rfl (by omega) ?_
  refine w_getR f158_39 (by assumption) rfl (by omega) ?_
  refine w_iload f158_42 rfl ?_
  refine w_bipush (v := 8) f158_44 (by decide) ?_
  refine w_iaddn f158_46 (by omega) ?_
  refine w_iloadn f158_47 rfl ?_
  refine w_iast f158_48 (by assumption) (by omega) ?_
  refine w_ret f158_49 rfl ?_
  exact ⟨_, (Ch.rf hw).put.put.put, rfl⟩
end A

/-! the reference's fire: coverage and trace -/
section A
variable {K : List AKd} {h : Nat → Nat → Int} {R : R4} {σ : Sg} {r d : Nat} {w : Nat → Int}
theorem udI_id {f : Nat → Int} {j : Nat} {v : Int} (e : f j = v) : udI f j v = f := funext fun y => by
  unfold udI
  split
  · next q => rw [q, e]
  · rfl
/-- the trace's entries move on: n of them, the first is free -/
def shW (w : Nat → Int) (a b : Nat) : Nat → Int := fun y => if 19 + 2 * a ≤ y ∧ y < 19 + 2 * b then w (y - 2) else w y
theorem shW_0 {b : Nat} : shW w b b = w := funext fun y => if_neg (by omega)
theorem shW_up {a b : Nat} (ha : 1 ≤ a) (hb : a < b) : udI (udI (shW w (a + 1) b) (19 + 2 * a) (shW w (a + 1) b (19 + 2 * a - 2))) (19 + 2 * a + 1) (shW w (a + 1) b (19 + 2 * a - 1)) = shW w a b := by
  refine funext fun y => ?_
  unfold udI shW
  by_cases e1 : y = 19 + 2 * a + 1
  · subst e1
    rw [if_pos rfl, if_neg (by omega), if_pos (by omega)]
    rfl
  · rw [if_neg e1]
    by_cases e2 : y = 19 + 2 * a
    · subst e2
      rw [if_pos rfl, if_neg (by omega), if_pos (by omega)]
    · rw [if_neg e2]
      by_cases e3 : 19 + 2 * (a + 1) ≤ y ∧ y < 19 + 2 * b
      · rw [if_pos e3, if_pos (by omega)]
      · rw [if_neg e3, if_neg (by omega)]
def trcN (w : Nat → Int) : Int := if w 18 < 20 then w 18 + 1 else w 18
def trcW (w : Nat → Int) (e t : Int) : Nat → Int := udI (udI (shW (udI w 18 (trcN w)) 1 (trcN w).toNat) 19 e) 20 t
theorem l180 {h0 : Nat → Nat → Int} {u : Nat → Int} {b : Nat} {e t : Int} {Q : Out → Prop} (hb : b ≤ 20) : ∀ (n : Nat) (h : Nat → Nat → Int), n + 1 ≤ b → Ch h0 (shW u (n + 1) b) h → (∀ h1 x, Ch h0 (shW u 1 b) h1 → Rn (ev 180 93 [AR 268, AI e, AI t, AI x] [] (KS r d, h1, R)) Q) → Rn (ev 180 33 [AR 268, AI e, AI t, AI (n : Int)] [] (KS r d, h, R)) Q := by
  intro n
  have k0 := @kd_268 r d
  have k1 := @kd_269 r d
  induction n with
  | zero =>
    intro h h2 hC g
    refine w_iloadn f180_33 rfl ?_
    refine w_if_le (t := 93) f180_34 (by decide) (fun c1 => ?_) (fun c1 => by omega)
    exact g _ _ hC
  | succ n ih =>
    intro h h2 hC g
    have e1 : h 269 (19 + 2 * (n + 1) - 2) = shW u (n + 1 + 1) b (19 + 2 * (n + 1) - 2) := by rw [hC.1]
    have e2 : h 269 (19 + 2 * (n + 1) - 1) = shW u (n + 1 + 1) b (19 + 2 * (n + 1) - 1) := by rw [hC.1]
    refine w_iloadn f180_33 rfl ?_
    refine w_if_le (t := 93) f180_34 (by decide) (fun c1 => by omega) (fun c1 => ?_)
    refine w_aloadn f180_37 rfl (by omega) ?_
    refine w_getR f180_38 (by assumption) rfl (by omega) ?_
    refine w_bipush (v := 19) f180_41 (by decide) ?_
    refine w_iconst (v := 2) f180_43 (by decide) ?_
    refine w_iloadn f180_44 rfl ?_
    refine w_imuln f180_45 (by omega) ?_
    refine w_iaddn f180_46 (by omega) ?_
    refine w_aloadn f180_47 rfl (by omega) ?_
    refine w_getR f180_48 (by assumption) rfl (by omega) ?_
    refine w_bipush (v := 19) f180_51 (by decide) ?_
    refine w_iconst (v := 2) f180_53 (by decide) ?_
    refine w_iloadn f180_54 rfl ?_
    refine w_imuln f180_55 (by omega) ?_
    refine w_iaddn f180_56 (by omega) ?_
    refine w_iconst (v := 2) f180_57 (by decide) ?_
    refine w_isubn f180_58 (by omega) ?_
    refine w_iald f180_59 (by assumption) (by omega) (by exact (congrArg (h 269) (show (19 + 2 * ((n + 1 : Nat) : Int) - 2).toNat = 19 + 2 * (n + 1) - 2 by omega)).trans e1) ?_
    refine w_iast f180_60 (by assumption) (by omega) ?_
    refine w_aloadn f180_61 rfl (by omega) ?_
    refine w_getR f180_62 (by assumption) rfl (by omega) ?_
    refine w_bipush (v := 19) f180_65 (by decide) ?_
    refine w_iconst (v := 2) f180_67 (by decide) ?_
    refine w_iloadn f180_68 rfl ?_
    refine w_imuln f180_69 (by omega) ?_
    refine w_iaddn f180_70 (by omega) ?_
    refine w_iconst (v := 1) f180_71 (by decide) ?_
    refine w_iaddn f180_72 (by omega) ?_
    refine w_aloadn f180_73 rfl (by omega) ?_
    refine w_getR f180_74 (by assumption) rfl (by omega) ?_
    refine w_bipush (v := 19) f180_77 (by decide) ?_
    refine w_iconst (v := 2) f180_79 (by decide) ?_
    refine w_iloadn f180_80 rfl ?_
    refine w_imuln f180_81 (by omega) ?_
    refine w_iaddn f180_82 (by omega) ?_
    refine w_iconst (v := 1) f180_83 (by decide) ?_
    refine w_isubn f180_84 (by omega) ?_
    refine w_iald f180_85 (by assumption) (by omega) (by exact (hput_j (by omega)).trans ((congrArg (h 269) (show (19 + 2 * ((n + 1 : Nat) : Int) - 1).toNat = 19 + 2 * (n + 1) - 1 by omega)).trans e2)) ?_
    refine w_iast f180_86 (by assumption) (by omega) ?_
    refine w_iincn f180_87 rfl (by omega) (sto_4_3 rfl) ?_
    refine w_goto (t := 33) f180_90 (by decide) ?_
    have q := (hC.put (j := (19 + 2 * ((n + 1 : Nat) : Int)).toNat) (v := shW u (n + 1 + 1) b (19 + 2 * (n + 1) - 2))).put (j := (19 + 2 * ((n + 1 : Nat) : Int) + 1).toNat) (v := shW u (n + 1 + 1) b (19 + 2 * (n + 1) - 1))
    have q2 : Ch h0 (shW u (n + 1) b) _ := q.ex (by rw [show (19 + 2 * ((n + 1 : Nat) : Int)).toNat = 19 + 2 * (n + 1) by omega, show (19 + 2 * ((n + 1 : Nat) : Int) + 1).toNat = 19 + 2 * (n + 1) + 1 by omega]; exact shW_up (by omega) (by omega))
    rw [show ((n + 1 : Nat) : Int) + -1 = (n : Int) by omega]
    exact ih _ (by omega) q2 g
theorem l180b {h0 : Nat → Nat → Int} {u : Nat → Int} {e t x : Int} (hC : Ch h0 u h) : Rn (ev 180 93 [AR 268, AI e, AI t, AI x] [] (KS r d, h, R)) (fun q => ∃ h1, Ch h0 (udI (udI u 19 e) 20 t) h1 ∧ q = (.inl AU, (KS r d, h1, R))) := by
  have k0 := @kd_268 r d
  have k1 := @kd_269 r d
  refine w_aloadn f180_93 rfl (by omega) ?_
  refine w_getR f180_94 (by assumption) rfl (by omega) ?_
  refine w_bipush (v := 19) f180_97 (by decide) ?_
  refine w_iloadn f180_99 rfl ?_
  refine w_iast f180_100 (by assumption) (by omega) ?_
  refine w_aloadn f180_101 rfl (by omega) ?_
  refine w_getR f180_102 (by assumption) rfl (by omega) ?_
  refine w_bipush (v := 20) f180_105 (by decide) ?_
  refine w_iloadn f180_107 rfl ?_
  refine w_iast f180_108 (by assumption) (by omega) ?_
  refine w_ret f180_109 rfl ?_
  exact ⟨_, hC.put.put, rfl⟩
theorem l180c {h0 : Nat → Nat → Int} {u : Nat → Int} {e t : Int} (h8 : 1 ≤ u 18 ∧ u 18 ≤ 20) (hC : Ch h0 u h) : Rn (ev 180 23 [AR 268, AI e, AI t, AU] [] (KS r d, h, R)) (fun q => ∃ h1, Ch h0 (udI (udI (shW u 1 (u 18).toNat) 19 e) 20 t) h1 ∧ q = (.inl AU, (KS r d, h1, R))) := by
  have k0 := @kd_268 r d
  have k1 := @kd_269 r d
  have e8 : h 269 18 = u 18 := by rw [hC.1]
  refine w_aloadn f180_23 rfl (by omega) ?_
  refine w_getR f180_24 (by assumption) rfl (by omega) ?_
  refine w_bipush (v := 18) f180_27 (by decide) ?_
  refine w_iald f180_29 (by assumption) (by omega) (by (try simp only [hput, hcopy, Nat.reduceEqDiff, Nat.add_left_cancel_iff, Nat.add_right_cancel_iff, Nat.left_eq_add, Nat.add_eq_left, Nat.right_eq_add, Nat.add_eq_right, Nat.reduceAdd, Nat.add_zero, Nat.succ_ne_self, Nat.one_ne_zero, Nat.zero_ne_one, eq_self, and_self, and_true, true_and, and_false, false_and, if_true, if_false, reduceIte, Int.reduceToNat, Int.toNat_natCast, e8]); exact rfl) ?_
  refine w_iconst (v := 1) f180_30 (by decide) ?_
  refine w_isubn f180_31 (by omega) ?_
  refine w_istoren f180_32 (Nat.le_of_ble_eq_true rfl) (sto_4_3 rfl) ?_
  rw [show u 18 - 1 = ((u 18 - 1).toNat : Int) by omega]
  refine l180 (b := (u 18).toNat) (by omega) _ h (by omega) (hC.ex ?_) (fun h1 x q => l180b q)
  rw [show (u 18 - 1).toNat + 1 = (u 18).toNat by omega]
  exact shW_0.symm
theorem s180 {h0 : Nat → Nat → Int} {e t : Int} (h8 : 0 ≤ w 18 ∧ w 18 ≤ 20) (hC : Ch h0 w h) : Rn (ev 180 0 [AR 268, AI e, AI t, AU] [] (KS r d, h, R)) (fun q => ∃ h1, Ch h0 (trcW w e t) h1 ∧ q = (.inl AU, (KS r d, h1, R))) := by
  have k0 := @kd_268 r d
  have k1 := @kd_269 r d
  have e8 : h 269 18 = w 18 := by rw [hC.1]
  refine w_aloadn f180_0 rfl (by omega) ?_
  refine w_getR f180_1 (by assumption) rfl (by omega) ?_
  refine w_bipush (v := 18) f180_4 (by decide) ?_
  refine w_iald f180_6 (by assumption) (by omega) (by (try simp only [hput, hcopy, Nat.reduceEqDiff, Nat.add_left_cancel_iff, Nat.add_right_cancel_iff, Nat.left_eq_add, Nat.add_eq_left, Nat.right_eq_add, Nat.add_eq_right, Nat.reduceAdd, Nat.add_zero, Nat.succ_ne_self, Nat.one_ne_zero, Nat.zero_ne_one, eq_self, and_self, and_true, true_and, and_false, false_and, if_true, if_false, reduceIte, Int.reduceToNat, Int.toNat_natCast, e8]); exact rfl) ?_
  refine w_bipush (v := 20) f180_7 (by decide) ?_
  refine w_ic_ge (t := 23) f180_9 (by decide) (fun c1 => ?_) (fun c1 => ?_)
  · first | (have hN : trcN w = w 18 := (if_neg (by omega)); have hu : udI w 18 (trcN w) = w := udI_id hN.symm; have g := l180c (e := e) (t := t) (r := r) (d := d) (R := R) (show 1 ≤ w 18 ∧ w 18 ≤ 20 by omega) hC; unfold trcW; rw [hu, hN]; exact g; done) | (have hN : trcN w = w 18 + 1 := (if_pos (by omega)); have hC2 := hC.put (j := 18) (v := trcN w); have e9 : udI w 18 (trcN w) 18 = trcN w := if_pos rfl; have g := l180c (e := e) (t := t) (r := r) (d := d) (R := R) (by rw [e9]; omega) hC2; rw [e9] at g; rw [hN] at g; unfold trcW; rw [hN]; exact g; done)
  · refine w_aloadn f180_12 rfl (by omega) ?_
    refine w_getR f180_13 (by assumption) rfl (by omega) ?_
    refine w_bipush (v := 18) f180_16 (by decide) ?_
    refine w_dup2 f180_18 rfl ?_
    refine w_iald f180_19 (by assumption) (by omega) (by (try simp only [hput, hcopy, Nat.reduceEqDiff, Nat.add_left_cancel_iff, Nat.add_right_cancel_iff, Nat.left_eq_add, Nat.add_eq_left, Nat.right_eq_add, Nat.add_eq_right, Nat.reduceAdd, Nat.add_zero, Nat.succ_ne_self, Nat.one_ne_zero, Nat.zero_ne_one, eq_self, and_self, and_true, true_and, and_false, false_and, if_true, if_false, reduceIte, Int.reduceToNat, Int.toNat_natCast, e8]); exact rfl) ?_
    refine w_iconst (v := 1) f180_20 (by decide) ?_
    refine w_iaddn f180_21 (by omega) ?_
    refine w_iast f180_22 (by assumption) (by omega) ?_
    first | (have hN : trcN w = w 18 := (if_neg (by omega)); have hu : udI w 18 (trcN w) = w := udI_id hN.symm; have g := l180c (e := e) (t := t) (r := r) (d := d) (R := R) (show 1 ≤ w 18 ∧ w 18 ≤ 20 by omega) hC; unfold trcW; rw [hu, hN]; exact g; done) | (have hN : trcN w = w 18 + 1 := (if_pos (by omega)); have hC2 := hC.put (j := 18) (v := trcN w); have e9 : udI w 18 (trcN w) 18 = trcN w := if_pos rfl; have g := l180c (e := e) (t := t) (r := r) (d := d) (R := R) (by rw [e9]; omega) hC2; rw [e9] at g; rw [hN] at g; unfold trcW; rw [hN]; exact g; done)
end A

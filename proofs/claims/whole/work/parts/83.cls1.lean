/-! the class's tokens -/
section A
variable {K : List AKd} {h : Nat → Nat → Int} {R : R4} {σ : Sg} {r d : Nat} {w : Nat → Int} {b : Nat → Int} {n : Int}
/-- only the token has changed -/
def TcF (h h1 : Nat → Nat → Int) : Prop := ∀ x y, ¬ (x = 2 ∧ 2 ≤ y ∧ y ≤ 5) → h1 x y = h x y
theorem TcF.rf : TcF h h := fun _ _ _ => rfl
theorem TcF.put {h1 : Nat → Nat → Int} {j : Nat} {v : Int} (q : TcF h h1) (hj : 2 ≤ j ∧ j ≤ 5) : TcF h (hput h1 2 j v) := fun x y n => (if_neg (fun z => n ⟨z.1, by omega, by omega⟩)).trans (q x y n)
theorem TcF.bb {h1 : Nat → Nat → Int} (q : TcF h h1) (hb : h 3 = b) : h1 3 = b := by
  subst hb
  exact funext fun y => q 3 y (fun z => absurd z.1 (by decide))
theorem TcF.nn {h1 : Nat → Nat → Int} (q : TcF h h1) (hn : h 2 1 = n) : h1 2 1 = n := (q 2 1 (by omega)).trans hn
theorem bAt_b {k : Int} (e : k < n) : bAt b n k = b k.toNat := if_pos e
/-- while blank -/
theorem l25a {h0 : Nat → Nat → Int} {Q : Out → Prop} (hb : h0 3 = b) (hn : h0 2 1 = n) (h7 : n ≤ 700) : ∀ (f : Nat) (p : Int) (h : Nat → Nat → Int), 0 ≤ p → p ≤ 700 → n - p ≤ f → TcF h0 h → h 2 3 = p →
    (∀ h1, TcF h0 h1 → h1 2 3 = skW b n f p → 0 ≤ skW b n f p → skW b n f p ≤ 700 → Rn (ev 25 60 [AR 2] [] (KS r d, h1, R)) Q) → Rn (ev 25 8 [AR 2] [] (KS r d, h, R)) Q := by
  intro f
  have k0 := @kd_2 r d
  have k1 := @kd_3 r d
  induction f with
  | zero =>
    intro p h h1 h2 h3 hF hp g
    have hn1 := hF.nn hn
    refine w_aloadn f25_8 rfl (by omega) ?_
    refine w_getI f25_9 (by decide) (by assumption) (by (try simp only [hput, hcopy, Nat.reduceEqDiff, Nat.add_left_cancel_iff, Nat.add_right_cancel_iff, Nat.left_eq_add, Nat.add_eq_left, Nat.right_eq_add, Nat.add_eq_right, Nat.reduceAdd, Nat.add_zero, Nat.succ_ne_self, Nat.one_ne_zero, Nat.zero_ne_one, eq_self, and_self, and_true, true_and, and_false, false_and, if_true, if_false, reduceIte, Int.reduceToNat, Int.toNat_natCast, hp, hn1]); exact rfl) ?_
    refine w_aloadn f25_12 rfl (by omega) ?_
    refine w_getI f25_13 (by decide) (by assumption) (by (try simp only [hput, hcopy, Nat.reduceEqDiff, Nat.add_left_cancel_iff, Nat.add_right_cancel_iff, Nat.left_eq_add, Nat.add_eq_left, Nat.right_eq_add, Nat.add_eq_right, Nat.reduceAdd, Nat.add_zero, Nat.succ_ne_self, Nat.one_ne_zero, Nat.zero_ne_one, eq_self, and_self, and_true, true_and, and_false, false_and, if_true, if_false, reduceIte, Int.reduceToNat, Int.toNat_natCast, hp, hn1]); exact rfl) ?_
    refine w_ic_ge (t := 60) f25_16 (by decide) (fun c1 => ?_) (fun c1 => by omega)
    exact g h hF hp h1 h2
  | succ f ih =>
    intro p h h1 h2 h3 hF hp g
    have hn1 := hF.nn hn
    have hb1 := hF.bb hb
    have e : n ≤ p → bAt b n p = -1 := bAt_n
    have e0 : p < n → bAt b n p = b p.toNat := bAt_b
    refine w_aloadn f25_8 rfl (by omega) ?_
    refine w_getI f25_9 (by decide) (by assumption) (by (try simp only [hput, hcopy, Nat.reduceEqDiff, Nat.add_left_cancel_iff, Nat.add_right_cancel_iff, Nat.left_eq_add, Nat.add_eq_left, Nat.right_eq_add, Nat.add_eq_right, Nat.reduceAdd, Nat.add_zero, Nat.succ_ne_self, Nat.one_ne_zero, Nat.zero_ne_one, eq_self, and_self, and_true, true_and, and_false, false_and, if_true, if_false, reduceIte, Int.reduceToNat, Int.toNat_natCast, hp, hn1, hb1]); exact rfl) ?_
    refine w_aloadn f25_12 rfl (by omega) ?_
    refine w_getI f25_13 (by decide) (by assumption) (by (try simp only [hput, hcopy, Nat.reduceEqDiff, Nat.add_left_cancel_iff, Nat.add_right_cancel_iff, Nat.left_eq_add, Nat.add_eq_left, Nat.right_eq_add, Nat.add_eq_right, Nat.reduceAdd, Nat.add_zero, Nat.succ_ne_self, Nat.one_ne_zero, Nat.zero_ne_one, eq_self, and_self, and_true, true_and, and_false, false_and, if_true, if_false, reduceIte, Int.reduceToNat, Int.toNat_natCast, hp, hn1, hb1]); exact rfl) ?_
    refine w_ic_ge (t := 60) f25_16 (by decide) (fun c1 => ?_) (fun c1 => ?_)
    · have e2 : skW b n (f + 1) p = p := by simp only [skW]; rw [if_neg (by omega)]
      rw [e2] at g
      exact g h hF hp h1 h2
    · have e1 := e0 (by omega)
      refine w_aloadn f25_19 rfl (by omega) ?_
      refine w_getR f25_20 (by assumption) rfl (by omega) ?_
      refine w_aloadn f25_23 rfl (by omega) ?_
      refine w_getI f25_24 (by decide) (by assumption) (by (try simp only [hput, hcopy, Nat.reduceEqDiff, Nat.add_left_cancel_iff, Nat.add_right_cancel_iff, Nat.left_eq_add, Nat.add_eq_left, Nat.right_eq_add, Nat.add_eq_right, Nat.reduceAdd, Nat.add_zero, Nat.succ_ne_self, Nat.one_ne_zero, Nat.zero_ne_one, eq_self, and_self, and_true, true_and, and_false, false_and, if_true, if_false, reduceIte, Int.reduceToNat, Int.toNat_natCast, hp, hn1, hb1]); exact rfl) ?_
      refine w_iald f25_27 (by assumption) (by omega) (by (try simp only [hput, hcopy, Nat.reduceEqDiff, Nat.add_left_cancel_iff, Nat.add_right_cancel_iff, Nat.left_eq_add, Nat.add_eq_left, Nat.right_eq_add, Nat.add_eq_right, Nat.reduceAdd, Nat.add_zero, Nat.succ_ne_self, Nat.one_ne_zero, Nat.zero_ne_one, eq_self, and_self, and_true, true_and, and_false, false_and, if_true, if_false, reduceIte, Int.reduceToNat, Int.toNat_natCast, hp, hn1, hb1]); exact rfl) ?_
      refine w_bipush (v := 32) f25_28 (by decide) ?_
      refine w_ic_eq (t := 47) f25_30 (by decide) (fun c2 => ?_) (fun c2 => ?_)
      · refine w_aloadn f25_47 rfl (by omega) ?_
        refine w_dup f25_48 rfl ?_
        refine w_getI f25_49 (by decide) (by assumption) (by (try simp only [hput, hcopy, Nat.reduceEqDiff, Nat.add_left_cancel_iff, Nat.add_right_cancel_iff, Nat.left_eq_add, Nat.add_eq_left, Nat.right_eq_add, Nat.add_eq_right, Nat.reduceAdd, Nat.add_zero, Nat.succ_ne_self, Nat.one_ne_zero, Nat.zero_ne_one, eq_self, and_self, and_true, true_and, and_false, false_and, if_true, if_false, reduceIte, Int.reduceToNat, Int.toNat_natCast, hp, hn1, hb1]); exact rfl) ?_
        refine w_iconst (v := 1) f25_52 (by decide) ?_
        refine w_iaddn f25_53 (by omega) ?_
        refine w_putI f25_54 (by assumption) ?_
        refine w_goto (t := 8) f25_57 (by decide) ?_
        have e2 : skW b n (f + 1) p = skW b n f (p + 1) := by simp only [skW]; rw [if_pos (by omega)]
        rw [e2] at g
        exact ih (p + 1) _ (by omega) (by omega) (by omega) (hF.put (by decide)) hput_s g
      · refine w_aloadn f25_33 rfl (by omega) ?_
        refine w_getR f25_34 (by assumption) rfl (by omega) ?_
        refine w_aloadn f25_37 rfl (by omega) ?_
        refine w_getI f25_38 (by decide) (by assumption) (by (try simp only [hput, hcopy, Nat.reduceEqDiff, Nat.add_left_cancel_iff, Nat.add_right_cancel_iff, Nat.left_eq_add, Nat.add_eq_left, Nat.right_eq_add, Nat.add_eq_right, Nat.reduceAdd, Nat.add_zero, Nat.succ_ne_self, Nat.one_ne_zero, Nat.zero_ne_one, eq_self, and_self, and_true, true_and, and_false, false_and, if_true, if_false, reduceIte, Int.reduceToNat, Int.toNat_natCast, hp, hn1, hb1]); exact rfl) ?_
        refine w_iald f25_41 (by assumption) (by omega) (by (try simp only [hput, hcopy, Nat.reduceEqDiff, Nat.add_left_cancel_iff, Nat.add_right_cancel_iff, Nat.left_eq_add, Nat.add_eq_left, Nat.right_eq_add, Nat.add_eq_right, Nat.reduceAdd, Nat.add_zero, Nat.succ_ne_self, Nat.one_ne_zero, Nat.zero_ne_one, eq_self, and_self, and_true, true_and, and_false, false_and, if_true, if_false, reduceIte, Int.reduceToNat, Int.toNat_natCast, hp, hn1, hb1]); exact rfl) ?_
        refine w_bipush (v := 10) f25_42 (by decide) ?_
        refine w_ic_ne (t := 60) f25_44 (by decide) (fun c3 => ?_) (fun c3 => ?_)
        · have e2 : skW b n (f + 1) p = p := by simp only [skW]; rw [if_neg (by omega)]
          rw [e2] at g
          exact g h hF hp h1 h2
        · refine w_aloadn f25_47 rfl (by omega) ?_
          refine w_dup f25_48 rfl ?_
          refine w_getI f25_49 (by decide) (by assumption) (by (try simp only [hput, hcopy, Nat.reduceEqDiff, Nat.add_left_cancel_iff, Nat.add_right_cancel_iff, Nat.left_eq_add, Nat.add_eq_left, Nat.right_eq_add, Nat.add_eq_right, Nat.reduceAdd, Nat.add_zero, Nat.succ_ne_self, Nat.one_ne_zero, Nat.zero_ne_one, eq_self, and_self, and_true, true_and, and_false, false_and, if_true, if_false, reduceIte, Int.reduceToNat, Int.toNat_natCast, hp, hn1, hb1]); exact rfl) ?_
          refine w_iconst (v := 1) f25_52 (by decide) ?_
          refine w_iaddn f25_53 (by omega) ?_
          refine w_putI f25_54 (by assumption) ?_
          refine w_goto (t := 8) f25_57 (by decide) ?_
          have e2 : skW b n (f + 1) p = skW b n f (p + 1) := by simp only [skW]; rw [if_pos (by omega)]
          rw [e2] at g
          exact ih (p + 1) _ (by omega) (by omega) (by omega) (hF.put (by decide)) hput_s g
/-- while a letter -/
theorem l25b {h0 : Nat → Nat → Int} {Q : Out → Prop} (hb : h0 3 = b) (hn : h0 2 1 = n) (h7 : n ≤ 700) {c : Int} : ∀ (f : Nat) (p : Int) (h : Nat → Nat → Int), 0 ≤ p → p ≤ 700 → n - p ≤ f → TcF h0 h → h 2 4 = p → h 2 3 = c → h 2 5 = 0 →
    (∀ h1, TcF h0 h1 → h1 2 4 = ltE b n f p → h1 2 3 = c → h1 2 5 = 0 → p ≤ ltE b n f p → ltE b n f p ≤ 700 → Rn (ev 25 125 [AR 2] [] (KS r d, h1, R)) Q) → Rn (ev 25 73 [AR 2] [] (KS r d, h, R)) Q := by
  intro f
  have k0 := @kd_2 r d
  have k1 := @kd_3 r d
  induction f with
  | zero =>
    intro p h h1 h2 h3 hF hp hc h5 g
    have hn1 := hF.nn hn
    refine w_aloadn f25_73 rfl (by omega) ?_
    refine w_getI f25_74 (by decide) (by assumption) (by (try simp only [hput, hcopy, Nat.reduceEqDiff, Nat.add_left_cancel_iff, Nat.add_right_cancel_iff, Nat.left_eq_add, Nat.add_eq_left, Nat.right_eq_add, Nat.add_eq_right, Nat.reduceAdd, Nat.add_zero, Nat.succ_ne_self, Nat.one_ne_zero, Nat.zero_ne_one, eq_self, and_self, and_true, true_and, and_false, false_and, if_true, if_false, reduceIte, Int.reduceToNat, Int.toNat_natCast, hp, hn1]); exact rfl) ?_
    refine w_aloadn f25_77 rfl (by omega) ?_
    refine w_getI f25_78 (by decide) (by assumption) (by (try simp only [hput, hcopy, Nat.reduceEqDiff, Nat.add_left_cancel_iff, Nat.add_right_cancel_iff, Nat.left_eq_add, Nat.add_eq_left, Nat.right_eq_add, Nat.add_eq_right, Nat.reduceAdd, Nat.add_zero, Nat.succ_ne_self, Nat.one_ne_zero, Nat.zero_ne_one, eq_self, and_self, and_true, true_and, and_false, false_and, if_true, if_false, reduceIte, Int.reduceToNat, Int.toNat_natCast, hp, hn1]); exact rfl) ?_
    refine w_ic_ge (t := 125) f25_81 (by decide) (fun c1 => ?_) (fun c1 => by omega)
    exact g h hF hp hc h5 (Int.le_refl _) h2
  | succ f ih =>
    intro p h h1 h2 h3 hF hp hc h5 g
    have hn1 := hF.nn hn
    have hb1 := hF.bb hb
    have e : n ≤ p → bAt b n p = -1 := bAt_n
    have e0 : p < n → bAt b n p = b p.toNat := bAt_b
    refine w_aloadn f25_73 rfl (by omega) ?_
    refine w_getI f25_74 (by decide) (by assumption) (by (try simp only [hput, hcopy, Nat.reduceEqDiff, Nat.add_left_cancel_iff, Nat.add_right_cancel_iff, Nat.left_eq_add, Nat.add_eq_left, Nat.right_eq_add, Nat.add_eq_right, Nat.reduceAdd, Nat.add_zero, Nat.succ_ne_self, Nat.one_ne_zero, Nat.zero_ne_one, eq_self, and_self, and_true, true_and, and_false, false_and, if_true, if_false, reduceIte, Int.reduceToNat, Int.toNat_natCast, hp, hn1, hb1]); exact rfl) ?_
    refine w_aloadn f25_77 rfl (by omega) ?_
    refine w_getI f25_78 (by decide) (by assumption) (by (try simp only [hput, hcopy, Nat.reduceEqDiff, Nat.add_left_cancel_iff, Nat.add_right_cancel_iff, Nat.left_eq_add, Nat.add_eq_left, Nat.right_eq_add, Nat.add_eq_right, Nat.reduceAdd, Nat.add_zero, Nat.succ_ne_self, Nat.one_ne_zero, Nat.zero_ne_one, eq_self, and_self, and_true, true_and, and_false, false_and, if_true, if_false, reduceIte, Int.reduceToNat, Int.toNat_natCast, hp, hn1, hb1]); exact rfl) ?_
    refine w_ic_ge (t := 125) f25_81 (by decide) (fun c1 => ?_) (fun c1 => ?_)
    · have e2 : ltE b n (f + 1) p = p := by simp only [ltE]; rw [if_neg (by omega)]
      rw [e2] at g
      exact g h hF hp hc h5 (Int.le_refl _) h2
    · have e1 := e0 (by omega)
      refine w_aloadn f25_84 rfl (by omega) ?_
      refine w_getR f25_85 (by assumption) rfl (by omega) ?_
      refine w_aloadn f25_88 rfl (by omega) ?_
      refine w_getI f25_89 (by decide) (by assumption) (by (try simp only [hput, hcopy, Nat.reduceEqDiff, Nat.add_left_cancel_iff, Nat.add_right_cancel_iff, Nat.left_eq_add, Nat.add_eq_left, Nat.right_eq_add, Nat.add_eq_right, Nat.reduceAdd, Nat.add_zero, Nat.succ_ne_self, Nat.one_ne_zero, Nat.zero_ne_one, eq_self, and_self, and_true, true_and, and_false, false_and, if_true, if_false, reduceIte, Int.reduceToNat, Int.toNat_natCast, hp, hn1, hb1]); exact rfl) ?_
      refine w_iald f25_92 (by assumption) (by omega) (by (try simp only [hput, hcopy, Nat.reduceEqDiff, Nat.add_left_cancel_iff, Nat.add_right_cancel_iff, Nat.left_eq_add, Nat.add_eq_left, Nat.right_eq_add, Nat.add_eq_right, Nat.reduceAdd, Nat.add_zero, Nat.succ_ne_self, Nat.one_ne_zero, Nat.zero_ne_one, eq_self, and_self, and_true, true_and, and_false, false_and, if_true, if_false, reduceIte, Int.reduceToNat, Int.toNat_natCast, hp, hn1, hb1]); exact rfl) ?_
      refine w_bipush (v := 97) f25_93 (by decide) ?_
      refine w_ic_lt (t := 125) f25_95 (by decide) (fun c2 => ?_) (fun c2 => ?_)
      · have e2 : ltE b n (f + 1) p = p := by simp only [ltE]; rw [if_neg (by omega)]
        rw [e2] at g
        exact g h hF hp hc h5 (Int.le_refl _) h2
      · refine w_aloadn f25_98 rfl (by omega) ?_
        refine w_getR f25_99 (by assumption) rfl (by omega) ?_
        refine w_aloadn f25_102 rfl (by omega) ?_
        refine w_getI f25_103 (by decide) (by assumption) (by (try simp only [hput, hcopy, Nat.reduceEqDiff, Nat.add_left_cancel_iff, Nat.add_right_cancel_iff, Nat.left_eq_add, Nat.add_eq_left, Nat.right_eq_add, Nat.add_eq_right, Nat.reduceAdd, Nat.add_zero, Nat.succ_ne_self, Nat.one_ne_zero, Nat.zero_ne_one, eq_self, and_self, and_true, true_and, and_false, false_and, if_true, if_false, reduceIte, Int.reduceToNat, Int.toNat_natCast, hp, hn1, hb1]); exact rfl) ?_
        refine w_iald f25_106 (by assumption) (by omega) (by (try simp only [hput, hcopy, Nat.reduceEqDiff, Nat.add_left_cancel_iff, Nat.add_right_cancel_iff, Nat.left_eq_add, Nat.add_eq_left, Nat.right_eq_add, Nat.add_eq_right, Nat.reduceAdd, Nat.add_zero, Nat.succ_ne_self, Nat.one_ne_zero, Nat.zero_ne_one, eq_self, and_self, and_true, true_and, and_false, false_and, if_true, if_false, reduceIte, Int.reduceToNat, Int.toNat_natCast, hp, hn1, hb1]); exact rfl) ?_
        refine w_bipush (v := 122) f25_107 (by decide) ?_
        refine w_ic_gt (t := 125) f25_109 (by decide) (fun c3 => ?_) (fun c3 => ?_)
        · have e2 : ltE b n (f + 1) p = p := by simp only [ltE]; rw [if_neg (by omega)]
          rw [e2] at g
          exact g h hF hp hc h5 (Int.le_refl _) h2
        · refine w_aloadn f25_112 rfl (by omega) ?_
          refine w_dup f25_113 rfl ?_
          refine w_getI f25_114 (by decide) (by assumption) (by (try simp only [hput, hcopy, Nat.reduceEqDiff, Nat.add_left_cancel_iff, Nat.add_right_cancel_iff, Nat.left_eq_add, Nat.add_eq_left, Nat.right_eq_add, Nat.add_eq_right, Nat.reduceAdd, Nat.add_zero, Nat.succ_ne_self, Nat.one_ne_zero, Nat.zero_ne_one, eq_self, and_self, and_true, true_and, and_false, false_and, if_true, if_false, reduceIte, Int.reduceToNat, Int.toNat_natCast, hp, hn1, hb1]); exact rfl) ?_
          refine w_iconst (v := 1) f25_117 (by decide) ?_
          refine w_iaddn f25_118 (by omega) ?_
          refine w_putI f25_119 (by assumption) ?_
          refine w_goto (t := 73) f25_122 (by decide) ?_
          have e2 : ltE b n (f + 1) p = ltE b n f (p + 1) := by simp only [ltE]; rw [if_pos (by omega)]
          rw [e2] at g
          exact ih (p + 1) _ (by omega) (by omega) (by omega) (hF.put (by decide)) hput_s ((hput_j (by decide)).trans hc) ((hput_j (by decide)).trans h5) (fun h1 q1 q2 q3 q4 q5 q6 => g h1 q1 q2 q3 q4 (by omega) q6)
end A

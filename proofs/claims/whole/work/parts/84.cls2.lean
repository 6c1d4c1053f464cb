/-! the class's tokens, II -/
section A
variable {K : List AKd} {h : Nat → Nat → Int} {R : R4} {σ : Sg} {r d : Nat} {w : Nat → Int} {b : Nat → Int} {n : Int}
/-- while a digit -/
theorem l25c {h0 : Nat → Nat → Int} {Q : Out → Prop} (hb : h0 3 = b) (hn : h0 2 1 = n) (h7 : n ≤ 700) {s : Int} : ∀ (f : Nat) (p v x : Int) (h : Nat → Nat → Int), 0 ≤ s → s ≤ p → p ≤ 700 → n - p ≤ f → TcF h0 h → h 2 4 = p → h 2 3 = s → h 2 5 = x → (p - s ≤ 3 → x = v ∧ 0 ≤ v) → (p = s → v ≤ 0) ∧ (p = s + 1 → v ≤ 9) ∧ (p = s + 2 → v ≤ 99) →
    (∀ h1, TcF h0 h1 → h1 2 4 = (dgE b n s f p v).1 → h1 2 3 = s → ((dgE b n s f p v).1 - s ≤ 3 → h1 2 5 = (dgE b n s f p v).2) → p ≤ (dgE b n s f p v).1 → (dgE b n s f p v).1 ≤ 700 → Rn (ev 25 236 [AR 2] [] (KS r d, h1, R)) Q) → Rn (ev 25 160 [AR 2] [] (KS r d, h, R)) Q := by
  intro f
  have k0 := @kd_2 r d
  have k1 := @kd_3 r d
  induction f with
  | zero =>
    intro p v x h h0 h1 h2 h3 hF hp hs h5 i1 i2 g
    have hn1 := hF.nn hn
    refine w_aloadn f25_160 rfl (by omega) ?_
    refine w_getI f25_161 (by decide) (by assumption) (by (try simp only [hput, hcopy, Nat.reduceEqDiff, Nat.add_left_cancel_iff, Nat.add_right_cancel_iff, Nat.left_eq_add, Nat.add_eq_left, Nat.right_eq_add, Nat.add_eq_right, Nat.reduceAdd, Nat.add_zero, Nat.succ_ne_self, Nat.one_ne_zero, Nat.zero_ne_one, eq_self, and_self, and_true, true_and, and_false, false_and, if_true, if_false, reduceIte, Int.reduceToNat, Int.toNat_natCast, hp, hn1]); exact rfl) ?_
    refine w_aloadn f25_164 rfl (by omega) ?_
    refine w_getI f25_165 (by decide) (by assumption) (by (try simp only [hput, hcopy, Nat.reduceEqDiff, Nat.add_left_cancel_iff, Nat.add_right_cancel_iff, Nat.left_eq_add, Nat.add_eq_left, Nat.right_eq_add, Nat.add_eq_right, Nat.reduceAdd, Nat.add_zero, Nat.succ_ne_self, Nat.one_ne_zero, Nat.zero_ne_one, eq_self, and_self, and_true, true_and, and_false, false_and, if_true, if_false, reduceIte, Int.reduceToNat, Int.toNat_natCast, hp, hn1]); exact rfl) ?_
    refine w_ic_ge (t := 236) f25_168 (by decide) (fun c1 => ?_) (fun c1 => by omega)
    exact g h hF hp hs (fun z => h5.trans (i1 z).1) (Int.le_refl _) h2
  | succ f ih =>
    intro p v x h h0 h1 h2 h3 hF hp hs h5 i1 i2 g
    have hn1 := hF.nn hn
    have hb1 := hF.bb hb
    have e : n ≤ p → bAt b n p = -1 := bAt_n
    have e0 : p < n → bAt b n p = b p.toNat := bAt_b
    refine w_aloadn f25_160 rfl (by omega) ?_
    refine w_getI f25_161 (by decide) (by assumption) (by (try simp only [hput, hcopy, Nat.reduceEqDiff, Nat.add_left_cancel_iff, Nat.add_right_cancel_iff, Nat.left_eq_add, Nat.add_eq_left, Nat.right_eq_add, Nat.add_eq_right, Nat.reduceAdd, Nat.add_zero, Nat.succ_ne_self, Nat.one_ne_zero, Nat.zero_ne_one, eq_self, and_self, and_true, true_and, and_false, false_and, if_true, if_false, reduceIte, Int.reduceToNat, Int.toNat_natCast, hp, hn1, hb1, h5]); exact rfl) ?_
    refine w_aloadn f25_164 rfl (by omega) ?_
    refine w_getI f25_165 (by decide) (by assumption) (by (try simp only [hput, hcopy, Nat.reduceEqDiff, Nat.add_left_cancel_iff, Nat.add_right_cancel_iff, Nat.left_eq_add, Nat.add_eq_left, Nat.right_eq_add, Nat.add_eq_right, Nat.reduceAdd, Nat.add_zero, Nat.succ_ne_self, Nat.one_ne_zero, Nat.zero_ne_one, eq_self, and_self, and_true, true_and, and_false, false_and, if_true, if_false, reduceIte, Int.reduceToNat, Int.toNat_natCast, hp, hn1, hb1, h5]); exact rfl) ?_
    refine w_ic_ge (t := 236) f25_168 (by decide) (fun c1 => ?_) (fun c1 => ?_)
    · have e2 : dgE b n s (f + 1) p v = (p, v) := by simp only [dgE]; rw [if_neg (by omega)]
      rw [e2] at g
      exact g h hF hp hs (fun z => h5.trans (i1 z).1) (Int.le_refl _) h2
    · have e1 := e0 (by omega)
      refine w_aloadn f25_171 rfl (by omega) ?_
      refine w_getR f25_172 (by assumption) rfl (by omega) ?_
      refine w_aloadn f25_175 rfl (by omega) ?_
      refine w_getI f25_176 (by decide) (by assumption) (by (try simp only [hput, hcopy, Nat.reduceEqDiff, Nat.add_left_cancel_iff, Nat.add_right_cancel_iff, Nat.left_eq_add, Nat.add_eq_left, Nat.right_eq_add, Nat.add_eq_right, Nat.reduceAdd, Nat.add_zero, Nat.succ_ne_self, Nat.one_ne_zero, Nat.zero_ne_one, eq_self, and_self, and_true, true_and, and_false, false_and, if_true, if_false, reduceIte, Int.reduceToNat, Int.toNat_natCast, hp, hn1, hb1, h5]); exact rfl) ?_
      refine w_iald f25_179 (by assumption) (by omega) (by (try simp only [hput, hcopy, Nat.reduceEqDiff, Nat.add_left_cancel_iff, Nat.add_right_cancel_iff, Nat.left_eq_add, Nat.add_eq_left, Nat.right_eq_add, Nat.add_eq_right, Nat.reduceAdd, Nat.add_zero, Nat.succ_ne_self, Nat.one_ne_zero, Nat.zero_ne_one, eq_self, and_self, and_true, true_and, and_false, false_and, if_true, if_false, reduceIte, Int.reduceToNat, Int.toNat_natCast, hp, hn1, hb1, h5]); exact rfl) ?_
      refine w_bipush (v := 48) f25_180 (by decide) ?_
      refine w_ic_lt (t := 236) f25_182 (by decide) (fun c2 => ?_) (fun c2 => ?_)
      · have e2 : dgE b n s (f + 1) p v = (p, v) := by simp only [dgE]; rw [if_neg (by omega)]
        rw [e2] at g
        exact g h hF hp hs (fun z => h5.trans (i1 z).1) (Int.le_refl _) h2
      · refine w_aloadn f25_185 rfl (by omega) ?_
        refine w_getR f25_186 (by assumption) rfl (by omega) ?_
        refine w_aloadn f25_189 rfl (by omega) ?_
        refine w_getI f25_190 (by decide) (by assumption) (by (try simp only [hput, hcopy, Nat.reduceEqDiff, Nat.add_left_cancel_iff, Nat.add_right_cancel_iff, Nat.left_eq_add, Nat.add_eq_left, Nat.right_eq_add, Nat.add_eq_right, Nat.reduceAdd, Nat.add_zero, Nat.succ_ne_self, Nat.one_ne_zero, Nat.zero_ne_one, eq_self, and_self, and_true, true_and, and_false, false_and, if_true, if_false, reduceIte, Int.reduceToNat, Int.toNat_natCast, hp, hn1, hb1, h5]); exact rfl) ?_
        refine w_iald f25_193 (by assumption) (by omega) (by (try simp only [hput, hcopy, Nat.reduceEqDiff, Nat.add_left_cancel_iff, Nat.add_right_cancel_iff, Nat.left_eq_add, Nat.add_eq_left, Nat.right_eq_add, Nat.add_eq_right, Nat.reduceAdd, Nat.add_zero, Nat.succ_ne_self, Nat.one_ne_zero, Nat.zero_ne_one, eq_self, and_self, and_true, true_and, and_false, false_and, if_true, if_false, reduceIte, Int.reduceToNat, Int.toNat_natCast, hp, hn1, hb1, h5]); exact rfl) ?_
        refine w_bipush (v := 57) f25_194 (by decide) ?_
        refine w_ic_gt (t := 236) f25_196 (by decide) (fun c3 => ?_) (fun c3 => ?_)
        · have e2 : dgE b n s (f + 1) p v = (p, v) := by simp only [dgE]; rw [if_neg (by omega)]
          rw [e2] at g
          exact g h hF hp hs (fun z => h5.trans (i1 z).1) (Int.le_refl _) h2
        · refine w_aloadn f25_199 rfl (by omega) ?_
          refine w_aloadn f25_200 rfl (by omega) ?_
          refine w_getI f25_201 (by decide) (by assumption) (by (try simp only [hput, hcopy, Nat.reduceEqDiff, Nat.add_left_cancel_iff, Nat.add_right_cancel_iff, Nat.left_eq_add, Nat.add_eq_left, Nat.right_eq_add, Nat.add_eq_right, Nat.reduceAdd, Nat.add_zero, Nat.succ_ne_self, Nat.one_ne_zero, Nat.zero_ne_one, eq_self, and_self, and_true, true_and, and_false, false_and, if_true, if_false, reduceIte, Int.reduceToNat, Int.toNat_natCast, hp, hn1, hb1, h5]); exact rfl) ?_
          refine w_bipush (v := 10) f25_204 (by decide) ?_
          refine w_imul f25_206 ?_
          refine w_aloadn f25_207 rfl (by omega) ?_
          refine w_getR f25_208 (by assumption) rfl (by omega) ?_
          refine w_aloadn f25_211 rfl (by omega) ?_
          refine w_getI f25_212 (by decide) (by assumption) (by (try simp only [hput, hcopy, Nat.reduceEqDiff, Nat.add_left_cancel_iff, Nat.add_right_cancel_iff, Nat.left_eq_add, Nat.add_eq_left, Nat.right_eq_add, Nat.add_eq_right, Nat.reduceAdd, Nat.add_zero, Nat.succ_ne_self, Nat.one_ne_zero, Nat.zero_ne_one, eq_self, and_self, and_true, true_and, and_false, false_and, if_true, if_false, reduceIte, Int.reduceToNat, Int.toNat_natCast, hp, hn1, hb1, h5]); exact rfl) ?_
          refine w_iald f25_215 (by assumption) (by omega) (by (try simp only [hput, hcopy, Nat.reduceEqDiff, Nat.add_left_cancel_iff, Nat.add_right_cancel_iff, Nat.left_eq_add, Nat.add_eq_left, Nat.right_eq_add, Nat.add_eq_right, Nat.reduceAdd, Nat.add_zero, Nat.succ_ne_self, Nat.one_ne_zero, Nat.zero_ne_one, eq_self, and_self, and_true, true_and, and_false, false_and, if_true, if_false, reduceIte, Int.reduceToNat, Int.toNat_natCast, hp, hn1, hb1, h5]); exact rfl) ?_
          refine w_iadd f25_216 ?_
          refine w_bipush (v := 48) f25_217 (by decide) ?_
          refine w_isub f25_219 ?_
          refine w_putI f25_220 (by assumption) ?_
          refine w_aloadn f25_223 rfl (by omega) ?_
          refine w_dup f25_224 rfl ?_
          refine w_getI f25_225 (by decide) (by assumption) (by (try simp only [hput, hcopy, Nat.reduceEqDiff, Nat.add_left_cancel_iff, Nat.add_right_cancel_iff, Nat.left_eq_add, Nat.add_eq_left, Nat.right_eq_add, Nat.add_eq_right, Nat.reduceAdd, Nat.add_zero, Nat.succ_ne_self, Nat.one_ne_zero, Nat.zero_ne_one, eq_self, and_self, and_true, true_and, and_false, false_and, if_true, if_false, reduceIte, Int.reduceToNat, Int.toNat_natCast, hp, hn1, hb1, h5]); exact rfl) ?_
          refine w_iconst (v := 1) f25_228 (by decide) ?_
          refine w_iaddn f25_229 (by omega) ?_
          refine w_putI f25_230 (by assumption) ?_
          refine w_goto (t := 160) f25_233 (by decide) ?_
          have e2 : dgE b n s (f + 1) p v = dgE b n s f (p + 1) (if p - s < 3 then 10 * v + bAt b n p - 48 else v) := by simp only [dgE]; rw [if_pos (by omega)]
          rw [e2] at g
          refine ih (p + 1) _ _ _ h0 (by omega) (by omega) (by omega) ((hF.put (by decide)).put (by decide)) hput_s ((hput_j (by decide)).trans ((hput_j (by decide)).trans hs)) ((hput_j (by decide)).trans hput_s) (fun z => ?_) ?_ (fun h1 q1 q2 q3 q4 q5 q6 => g h1 q1 q2 q3 q4 (by omega) q6)
          · have i3 := i1 (by omega)
            rw [if_pos (show p - s < 3 by omega), e1]
            unfold wr
            omega
          · by_cases z : p - s < 3
            · have i3 := i1 (by omega)
              rw [if_pos z]
              omega
            · omega
end A

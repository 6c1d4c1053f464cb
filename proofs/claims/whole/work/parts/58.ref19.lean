/-! the reference's tokens -/
section A
variable {K : List AKd} {h : Nat → Nat → Int} {R : R4} {σ : Sg} {r d : Nat} {w : Nat → Int}
/-- while a digit -/
theorem l192c {h0 : Nat → Nat → Int} {b : Nat → Int} {n s c : Int} {Q : Out → Prop} (hb : h0 275 = b) (hn : h0 268 13 = n) (h7 : n ≤ 700) (h19 : h0 268 19 = s) (hs : 0 ≤ s) : ∀ (f : Nat) (p v : Int) (h : Nat → Nat → Int), s ≤ p → p ≤ 700 → n - p ≤ f → TkF h0 h → h 268 18 = p → h 268 20 = v → 0 ≤ v → (p - s ≤ 0 → v ≤ 0) → (p - s ≤ 1 → v ≤ 9) → (p - s ≤ 2 → v ≤ 99) → v ≤ 999 → (∀ y, y ≠ 18 → y ≠ 20 → h 268 y = h0 268 y) →
    (∀ h1, TkF h0 h1 → h1 268 18 = (dgE b n s f p v).1 → h1 268 20 = (dgE b n s f p v).2 → p ≤ (dgE b n s f p v).1 → (dgE b n s f p v).1 ≤ 700 → (∀ y, y ≠ 18 → y ≠ 20 → h1 268 y = h0 268 y) → Rn (ev 192 220 [AR 268, AI c] [] (KS r d, h1, R)) Q) → Rn (ev 192 146 [AR 268, AI c] [] (KS r d, h, R)) Q := by
  intro f
  have k0 := @kd_268 r d
  induction f with
  | zero =>
    intro p v h h1 h2 h3 hF hp hv v0 v1 v2 v3 v4 hy g
    have e := bAt_n (b := b) (n := n) (k := p) (by omega)
    refine w_aloadn f192_146 rfl (by omega) ?_
    refine w_aloadn f192_147 rfl (by omega) ?_
    refine w_getI f192_148 (by decide) (by assumption) (by (try simp only [hput, hcopy, Nat.reduceEqDiff, Nat.add_left_cancel_iff, Nat.add_right_cancel_iff, Nat.left_eq_add, Nat.add_eq_left, Nat.right_eq_add, Nat.add_eq_right, Nat.reduceAdd, Nat.add_zero, Nat.succ_ne_self, Nat.one_ne_zero, Nat.zero_ne_one, eq_self, and_self, and_true, true_and, and_false, false_and, if_true, if_false, reduceIte, Int.reduceToNat, Int.toNat_natCast, hp]); exact rfl) ?_
    refine w_cV f192_151 (Or.inl rfl) rfl (by omega) (okd_of (by assumption)) rfl ⟨Nat.le_of_ble_eq_true rfl, rfl, Nat.le_of_ble_eq_true rfl⟩ (en190 _ _) (s190 (hF.b hb) (hF.n hn) h7 (by omega)) (pv190 _ _) ?_
    refine w_bipush (v := 48) f192_154 (by decide) ?_
    refine w_bipush (v := 57) f192_156 (by decide) ?_
    refine w_cS f192_158 (Or.inl rfl) (Nat.le_of_ble_eq_true rfl) rfl rfl ⟨Nat.le_of_ble_eq_true rfl, rfl, Nat.le_of_ble_eq_true rfl⟩ (en148 _ _ _) (s148) (pv148 _ _) ?_
    refine w_ifb_eq (t := 220) f192_161 (by decide) (fun c1 => ?_) (fun c1 => by omega)
    exact g h hF hp hv (Int.le_refl _) h2 hy
  | succ f ih =>
    intro p v h h1 h2 h3 hF hp hv v0 v1 v2 v3 v4 hy g
    have e : bAt b n p ≠ -1 → p < n := fun z => Classical.byContradiction (fun z1 => z (bAt_n (by omega)))
    have e19 : h 268 19 = s := (hy 19 (by decide) (by decide)).trans h19
    have go : ∀ v1 : Int, Rn (ev 192 146 [AR 268, AI c] [] (KS r d, hput (hput h 268 20 v1) 268 18 (p + 1), R)) Q → True := fun _ _ => trivial
    refine w_aloadn f192_146 rfl (by omega) ?_
    refine w_aloadn f192_147 rfl (by omega) ?_
    refine w_getI f192_148 (by decide) (by assumption) (by (try simp only [hput, hcopy, Nat.reduceEqDiff, Nat.add_left_cancel_iff, Nat.add_right_cancel_iff, Nat.left_eq_add, Nat.add_eq_left, Nat.right_eq_add, Nat.add_eq_right, Nat.reduceAdd, Nat.add_zero, Nat.succ_ne_self, Nat.one_ne_zero, Nat.zero_ne_one, eq_self, and_self, and_true, true_and, and_false, false_and, if_true, if_false, reduceIte, Int.reduceToNat, Int.toNat_natCast, hp, hv, e19]); exact rfl) ?_
    refine w_cV f192_151 (Or.inl rfl) rfl (by omega) (okd_of (by assumption)) rfl ⟨Nat.le_of_ble_eq_true rfl, rfl, Nat.le_of_ble_eq_true rfl⟩ (en190 _ _) (s190 (hF.b hb) (hF.n hn) h7 (by omega)) (pv190 _ _) ?_
    refine w_bipush (v := 48) f192_154 (by decide) ?_
    refine w_bipush (v := 57) f192_156 (by decide) ?_
    refine w_cS f192_158 (Or.inl rfl) (Nat.le_of_ble_eq_true rfl) rfl rfl ⟨Nat.le_of_ble_eq_true rfl, rfl, Nat.le_of_ble_eq_true rfl⟩ (en148 _ _ _) (s148) (pv148 _ _) ?_
    refine w_ifb_eq (t := 220) f192_161 (by decide) (fun c1 => ?_) (fun c1 => ?_)
    · have e2 : dgE b n s (f + 1) p v = (p, v) := by simp only [dgE]; rw [if_neg c1]
      rw [e2] at g
      exact g h hF hp hv (Int.le_refl _) h2 hy
    · have e1 := e (by omega)
      refine w_aloadn f192_164 rfl (by omega) ?_
      refine w_aloadn f192_165 rfl (by omega) ?_
      refine w_getI f192_166 (by decide) (by assumption) (by (try simp only [hput, hcopy, Nat.reduceEqDiff, Nat.add_left_cancel_iff, Nat.add_right_cancel_iff, Nat.left_eq_add, Nat.add_eq_left, Nat.right_eq_add, Nat.add_eq_right, Nat.reduceAdd, Nat.add_zero, Nat.succ_ne_self, Nat.one_ne_zero, Nat.zero_ne_one, eq_self, and_self, and_true, true_and, and_false, false_and, if_true, if_false, reduceIte, Int.reduceToNat, Int.toNat_natCast, hp, hv, e19]); exact rfl) ?_
      refine w_aloadn f192_169 rfl (by omega) ?_
      refine w_getI f192_170 (by decide) (by assumption) (by (try simp only [hput, hcopy, Nat.reduceEqDiff, Nat.add_left_cancel_iff, Nat.add_right_cancel_iff, Nat.left_eq_add, Nat.add_eq_left, Nat.right_eq_add, Nat.add_eq_right, Nat.reduceAdd, Nat.add_zero, Nat.succ_ne_self, Nat.one_ne_zero, Nat.zero_ne_one, eq_self, and_self, and_true, true_and, and_false, false_and, if_true, if_false, reduceIte, Int.reduceToNat, Int.toNat_natCast, hp, hv, e19]); exact rfl) ?_
      refine w_isubn f192_173 (by omega) ?_
      refine w_iconst (v := 3) f192_174 (by decide) ?_
      refine w_ic_ge (t := 200) f192_175 (by decide) (fun c2 => ?_) (fun c2 => ?_)
      · refine w_aloadn f192_200 rfl (by omega) ?_
        refine w_getI f192_201 (by decide) (by assumption) (by (try simp only [hput, hcopy, Nat.reduceEqDiff, Nat.add_left_cancel_iff, Nat.add_right_cancel_iff, Nat.left_eq_add, Nat.add_eq_left, Nat.right_eq_add, Nat.add_eq_right, Nat.reduceAdd, Nat.add_zero, Nat.succ_ne_self, Nat.one_ne_zero, Nat.zero_ne_one, eq_self, and_self, and_true, true_and, and_false, false_and, if_true, if_false, reduceIte, Int.reduceToNat, Int.toNat_natCast, hp, hv, e19]); exact rfl) ?_
        refine w_putI f192_204 (by assumption) ?_
        refine w_aloadn f192_207 rfl (by omega) ?_
        refine w_dup f192_208 rfl ?_
        refine w_getI f192_209 (by decide) (by assumption) (by (try simp only [hput, hcopy, Nat.reduceEqDiff, Nat.add_left_cancel_iff, Nat.add_right_cancel_iff, Nat.left_eq_add, Nat.add_eq_left, Nat.right_eq_add, Nat.add_eq_right, Nat.reduceAdd, Nat.add_zero, Nat.succ_ne_self, Nat.one_ne_zero, Nat.zero_ne_one, eq_self, and_self, and_true, true_and, and_false, false_and, if_true, if_false, reduceIte, Int.reduceToNat, Int.toNat_natCast, hp, hv, e19]); exact rfl) ?_
        refine w_iconst (v := 1) f192_212 (by decide) ?_
        refine w_iaddn f192_213 (by omega) ?_
        refine w_putI f192_214 (by assumption) ?_
        refine w_goto (t := 146) f192_217 (by decide) ?_
        first | (have e2 : dgE b n s (f + 1) p v = dgE b n s f (p + 1) (10 * v + bAt b n p - 48) := (by simp only [dgE]; rw [if_pos c1, if_pos (by omega)]); rw [e2] at g; exact ih (p + 1) _ _ (by omega) (by omega) (by omega) ((hF.put (by decide)).put (by decide)) hput_s ((hput_j (by decide)).trans hput_s) (by omega) (by omega) (by omega) (by omega) (by omega) (fun y q1 q2 => (hput_j q1).trans ((hput_j q2).trans (hy y q1 q2))) (fun h1 q1 q2 q3 q4 => g h1 q1 q2 q3 (by omega))) | (have e2 : dgE b n s (f + 1) p v = dgE b n s f (p + 1) v := (by simp only [dgE]; rw [if_pos c1, if_neg (by omega)]); rw [e2] at g; exact ih (p + 1) _ _ (by omega) (by omega) (by omega) ((hF.put (by decide)).put (by decide)) hput_s ((hput_j (by decide)).trans hput_s) (by omega) (by omega) (by omega) (by omega) (by omega) (fun y q1 q2 => (hput_j q1).trans ((hput_j q2).trans (hy y q1 q2))) (fun h1 q1 q2 q3 q4 => g h1 q1 q2 q3 (by omega)))
      · refine w_bipush (v := 10) f192_178 (by decide) ?_
        refine w_aloadn f192_180 rfl (by omega) ?_
        refine w_getI f192_181 (by decide) (by assumption) (by (try simp only [hput, hcopy, Nat.reduceEqDiff, Nat.add_left_cancel_iff, Nat.add_right_cancel_iff, Nat.left_eq_add, Nat.add_eq_left, Nat.right_eq_add, Nat.add_eq_right, Nat.reduceAdd, Nat.add_zero, Nat.succ_ne_self, Nat.one_ne_zero, Nat.zero_ne_one, eq_self, and_self, and_true, true_and, and_false, false_and, if_true, if_false, reduceIte, Int.reduceToNat, Int.toNat_natCast, hp, hv, e19]); exact rfl) ?_
        refine w_imuln f192_184 (by omega) ?_
        refine w_aloadn f192_185 rfl (by omega) ?_
        refine w_aloadn f192_186 rfl (by omega) ?_
        refine w_getI f192_187 (by decide) (by assumption) (by (try simp only [hput, hcopy, Nat.reduceEqDiff, Nat.add_left_cancel_iff, Nat.add_right_cancel_iff, Nat.left_eq_add, Nat.add_eq_left, Nat.right_eq_add, Nat.add_eq_right, Nat.reduceAdd, Nat.add_zero, Nat.succ_ne_self, Nat.one_ne_zero, Nat.zero_ne_one, eq_self, and_self, and_true, true_and, and_false, false_and, if_true, if_false, reduceIte, Int.reduceToNat, Int.toNat_natCast, hp, hv, e19]); exact rfl) ?_
        refine w_cV f192_190 (Or.inl rfl) rfl (by omega) (okd_of (by assumption)) rfl ⟨Nat.le_of_ble_eq_true rfl, rfl, Nat.le_of_ble_eq_true rfl⟩ (en190 _ _) (s190 (hF.b hb) (hF.n hn) h7 (by omega)) (pv190 _ _) ?_
        refine w_iaddn f192_193 (by omega) ?_
        refine w_bipush (v := 48) f192_194 (by decide) ?_
        refine w_isubn f192_196 (by omega) ?_
        refine w_goto (t := 204) f192_197 (by decide) ?_
        refine w_putI f192_204 (by assumption) ?_
        refine w_aloadn f192_207 rfl (by omega) ?_
        refine w_dup f192_208 rfl ?_
        refine w_getI f192_209 (by decide) (by assumption) (by (try simp only [hput, hcopy, Nat.reduceEqDiff, Nat.add_left_cancel_iff, Nat.add_right_cancel_iff, Nat.left_eq_add, Nat.add_eq_left, Nat.right_eq_add, Nat.add_eq_right, Nat.reduceAdd, Nat.add_zero, Nat.succ_ne_self, Nat.one_ne_zero, Nat.zero_ne_one, eq_self, and_self, and_true, true_and, and_false, false_and, if_true, if_false, reduceIte, Int.reduceToNat, Int.toNat_natCast, hp, hv, e19]); exact rfl) ?_
        refine w_iconst (v := 1) f192_212 (by decide) ?_
        refine w_iaddn f192_213 (by omega) ?_
        refine w_putI f192_214 (by assumption) ?_
        refine w_goto (t := 146) f192_217 (by decide) ?_
        first | (have e2 : dgE b n s (f + 1) p v = dgE b n s f (p + 1) (10 * v + bAt b n p - 48) := (by simp only [dgE]; rw [if_pos c1, if_pos (by omega)]); rw [e2] at g; exact ih (p + 1) _ _ (by omega) (by omega) (by omega) ((hF.put (by decide)).put (by decide)) hput_s ((hput_j (by decide)).trans hput_s) (by omega) (by omega) (by omega) (by omega) (by omega) (fun y q1 q2 => (hput_j q1).trans ((hput_j q2).trans (hy y q1 q2))) (fun h1 q1 q2 q3 q4 => g h1 q1 q2 q3 (by omega))) | (have e2 : dgE b n s (f + 1) p v = dgE b n s f (p + 1) v := (by simp only [dgE]; rw [if_pos c1, if_neg (by omega)]); rw [e2] at g; exact ih (p + 1) _ _ (by omega) (by omega) (by omega) ((hF.put (by decide)).put (by decide)) hput_s ((hput_j (by decide)).trans hput_s) (by omega) (by omega) (by omega) (by omega) (by omega) (fun y q1 q2 => (hput_j q1).trans ((hput_j q2).trans (hy y q1 q2))) (fun h1 q1 q2 q3 q4 => g h1 q1 q2 q3 (by omega)))
theorem TkF.tr {h1 h2 : Nat → Nat → Int} (a : TkF h h1) (b : TkF h1 h2) : TkF h h2 := fun x y z => (b x y z).trans (a x y z)
def TkP (h : Nat → Nat → Int) (T : Tk) : Nat → Nat → Int → Prop := fun _ _ _ => True
/-- behind the letters -/
theorem l192d {h0 : Nat → Nat → Int} {s e c : Int} (hF : TkF h0 h) (h18 : h 268 18 = e) (h19 : h 268 19 = s) (h20 : h 268 20 = 0) (hs : 0 ≤ s ∧ s ≤ e ∧ e ≤ 700) : Rn (ev 192 109 [AR 268, AI c] [] (KS r d, h, R)) (fun o => ∃ h1, TkF h0 h1 ∧ TkA h1 (s, e, 0, if 8 < e - s then 4 else 1) ∧ o = (.inl AU, (KS r d, h1, R))) := by
  have k0 := @kd_268 r d
  refine w_aloadn f192_109 rfl (by omega) ?_
  refine w_aloadn f192_110 rfl (by omega) ?_
  refine w_getI f192_111 (by decide) (by assumption) (by (try simp only [hput, hcopy, Nat.reduceEqDiff, Nat.add_left_cancel_iff, Nat.add_right_cancel_iff, Nat.left_eq_add, Nat.add_eq_left, Nat.right_eq_add, Nat.add_eq_right, Nat.reduceAdd, Nat.add_zero, Nat.succ_ne_self, Nat.one_ne_zero, Nat.zero_ne_one, eq_self, and_self, and_true, true_and, and_false, false_and, if_true, if_false, reduceIte, Int.reduceToNat, Int.toNat_natCast, h18, h19]); exact rfl) ?_
  refine w_aloadn f192_114 rfl (by omega) ?_
  refine w_getI f192_115 (by decide) (by assumption) (by (try simp only [hput, hcopy, Nat.reduceEqDiff, Nat.add_left_cancel_iff, Nat.add_right_cancel_iff, Nat.left_eq_add, Nat.add_eq_left, Nat.right_eq_add, Nat.add_eq_right, Nat.reduceAdd, Nat.add_zero, Nat.succ_ne_self, Nat.one_ne_zero, Nat.zero_ne_one, eq_self, and_self, and_true, true_and, and_false, false_and, if_true, if_false, reduceIte, Int.reduceToNat, Int.toNat_natCast, h18, h19]); exact rfl) ?_
  refine w_isubn f192_118 (by omega) ?_
  refine w_bipush (v := 8) f192_119 (by decide) ?_
  refine w_ic_le (t := 128) f192_121 (by decide) (fun c1 => ?_) (fun c1 => ?_)
  · refine w_iconst (v := 1) f192_128 (by decide) ?_
    refine w_putI f192_129 (by assumption) ?_
    refine w_goto (t := 270) f192_132 (by decide) ?_
    refine w_ret f192_270 rfl ?_
    first | exact ⟨_, hF.put (by decide), ⟨(hput_j (by decide)).trans h19, (hput_j (by decide)).trans h18, (hput_j (by decide)).trans h20, hput_s.trans (if_neg (by omega)).symm⟩, rfl⟩ | exact ⟨_, hF.put (by decide), ⟨(hput_j (by decide)).trans h19, (hput_j (by decide)).trans h18, (hput_j (by decide)).trans h20, hput_s.trans (if_pos (by omega)).symm⟩, rfl⟩
  · refine w_iconst (v := 4) f192_124 (by decide) ?_
    refine w_goto (t := 129) f192_125 (by decide) ?_
    refine w_putI f192_129 (by assumption) ?_
    refine w_goto (t := 270) f192_132 (by decide) ?_
    refine w_ret f192_270 rfl ?_
    first | exact ⟨_, hF.put (by decide), ⟨(hput_j (by decide)).trans h19, (hput_j (by decide)).trans h18, (hput_j (by decide)).trans h20, hput_s.trans (if_neg (by omega)).symm⟩, rfl⟩ | exact ⟨_, hF.put (by decide), ⟨(hput_j (by decide)).trans h19, (hput_j (by decide)).trans h18, (hput_j (by decide)).trans h20, hput_s.trans (if_pos (by omega)).symm⟩, rfl⟩
theorem l192e {h0 : Nat → Nat → Int} {s e c v : Int} (hF : TkF h0 h) (h18 : h 268 18 = e) (h19 : h 268 19 = s) (h20 : h 268 20 = v) (hs : 0 ≤ s ∧ s ≤ e ∧ e ≤ 700) : Rn (ev 192 220 [AR 268, AI c] [] (KS r d, h, R)) (fun o => ∃ h1, TkF h0 h1 ∧ TkA h1 (s, e, v, if 3 < e - s then 4 else 2) ∧ o = (.inl AU, (KS r d, h1, R))) := by
  have k0 := @kd_268 r d
  refine w_aloadn f192_220 rfl (by omega) ?_
  refine w_aloadn f192_221 rfl (by omega) ?_
  refine w_getI f192_222 (by decide) (by assumption) (by (try simp only [hput, hcopy, Nat.reduceEqDiff, Nat.add_left_cancel_iff, Nat.add_right_cancel_iff, Nat.left_eq_add, Nat.add_eq_left, Nat.right_eq_add, Nat.add_eq_right, Nat.reduceAdd, Nat.add_zero, Nat.succ_ne_self, Nat.one_ne_zero, Nat.zero_ne_one, eq_self, and_self, and_true, true_and, and_false, false_and, if_true, if_false, reduceIte, Int.reduceToNat, Int.toNat_natCast, h18, h19]); exact rfl) ?_
  refine w_aloadn f192_225 rfl (by omega) ?_
  refine w_getI f192_226 (by decide) (by assumption) (by (try simp only [hput, hcopy, Nat.reduceEqDiff, Nat.add_left_cancel_iff, Nat.add_right_cancel_iff, Nat.left_eq_add, Nat.add_eq_left, Nat.right_eq_add, Nat.add_eq_right, Nat.reduceAdd, Nat.add_zero, Nat.succ_ne_self, Nat.one_ne_zero, Nat.zero_ne_one, eq_self, and_self, and_true, true_and, and_false, false_and, if_true, if_false, reduceIte, Int.reduceToNat, Int.toNat_natCast, h18, h19]); exact rfl) ?_
  refine w_isubn f192_229 (by omega) ?_
  refine w_iconst (v := 3) f192_230 (by decide) ?_
  refine w_ic_le (t := 238) f192_231 (by decide) (fun c1 => ?_) (fun c1 => ?_)
  · refine w_iconst (v := 2) f192_238 (by decide) ?_
    refine w_putI f192_239 (by assumption) ?_
    refine w_goto (t := 270) f192_242 (by decide) ?_
    refine w_ret f192_270 rfl ?_
    first | exact ⟨_, hF.put (by decide), ⟨(hput_j (by decide)).trans h19, (hput_j (by decide)).trans h18, (hput_j (by decide)).trans h20, hput_s.trans (if_neg (by omega)).symm⟩, rfl⟩ | exact ⟨_, hF.put (by decide), ⟨(hput_j (by decide)).trans h19, (hput_j (by decide)).trans h18, (hput_j (by decide)).trans h20, hput_s.trans (if_pos (by omega)).symm⟩, rfl⟩
  · refine w_iconst (v := 4) f192_234 (by decide) ?_
    refine w_goto (t := 239) f192_235 (by decide) ?_
    refine w_putI f192_239 (by assumption) ?_
    refine w_goto (t := 270) f192_242 (by decide) ?_
    refine w_ret f192_270 rfl ?_
    first | exact ⟨_, hF.put (by decide), ⟨(hput_j (by decide)).trans h19, (hput_j (by decide)).trans h18, (hput_j (by decide)).trans h20, hput_s.trans (if_neg (by omega)).symm⟩, rfl⟩ | exact ⟨_, hF.put (by decide), ⟨(hput_j (by decide)).trans h19, (hput_j (by decide)).trans h18, (hput_j (by decide)).trans h20, hput_s.trans (if_pos (by omega)).symm⟩, rfl⟩
theorem ltE_r {b : Nat → Int} {n : Int} : ∀ (f : Nat) (p : Int), p ≤ 700 → n ≤ 700 → p ≤ ltE b n f p ∧ ltE b n f p ≤ 700
  | 0, p, h, _ => ⟨Int.le_refl _, h⟩
  | f + 1, p, h, h7 => by
    unfold ltE
    split
    · next q =>
      have : p < n := Classical.byContradiction (fun z => by have := bAt_n (b := b) (n := n) (k := p) (by omega); omega)
      have := ltE_r (b := b) f (p + 1) (by omega) h7
      omega
    · omega
/-- behind the blanks -/
theorem l192f {h0 : Nat → Nat → Int} {b : Nat → Int} {n s : Int} (hb : h0 275 = b) (hn : h0 268 13 = n) (h7 : n ≤ 700) (hF : TkF h0 h) (h18 : h 268 18 = s) (hs : 0 ≤ s ∧ s ≤ 700) : Rn (ev 192 39 [AR 268, AU] [] (KS r d, h, R)) (fun o => ∃ h1, TkF h0 h1 ∧ TkA h1 (tkF b n s) ∧ o = (.inl AU, (KS r d, h1, R))) := by
  have k0 := @kd_268 r d
  have e : bAt b n s ≠ -1 → s < n := fun z => Classical.byContradiction (fun z1 => z (bAt_n (by omega)))
  have hF1 := hF.put (j := 19) (v := s) (by decide)
  have hF2 := hF1.put (j := 20) (v := 0) (by decide)
  refine w_aloadn f192_39 rfl (by omega) ?_
  refine w_aloadn f192_40 rfl (by omega) ?_
  refine w_getI f192_41 (by decide) (by assumption) (by (try simp only [hput, hcopy, Nat.reduceEqDiff, Nat.add_left_cancel_iff, Nat.add_right_cancel_iff, Nat.left_eq_add, Nat.add_eq_left, Nat.right_eq_add, Nat.add_eq_right, Nat.reduceAdd, Nat.add_zero, Nat.succ_ne_self, Nat.one_ne_zero, Nat.zero_ne_one, eq_self, and_self, and_true, true_and, and_false, false_and, if_true, if_false, reduceIte, Int.reduceToNat, Int.toNat_natCast, h18]); exact rfl) ?_
  refine w_putI f192_44 (by assumption) ?_
  refine w_aloadn f192_47 rfl (by omega) ?_
  refine w_aloadn f192_48 rfl (by omega) ?_
  refine w_getI f192_49 (by decide) (by assumption) (by (try simp only [hput, hcopy, Nat.reduceEqDiff, Nat.add_left_cancel_iff, Nat.add_right_cancel_iff, Nat.left_eq_add, Nat.add_eq_left, Nat.right_eq_add, Nat.add_eq_right, Nat.reduceAdd, Nat.add_zero, Nat.succ_ne_self, Nat.one_ne_zero, Nat.zero_ne_one, eq_self, and_self, and_true, true_and, and_false, false_and, if_true, if_false, reduceIte, Int.reduceToNat, Int.toNat_natCast, h18]); exact rfl) ?_
  refine w_cV f192_52 (Or.inl rfl) rfl (by omega) (okd_of (by assumption)) rfl ⟨Nat.le_of_ble_eq_true rfl, rfl, Nat.le_of_ble_eq_true rfl⟩ (en190 _ _) (s190 (by first | exact hF1.b hb | exact hF2.b hb) (by first | exact hF1.n hn | exact hF2.n hn) h7 hs.1) (pv190 _ _) ?_
  refine w_istoren f192_55 (Nat.le_of_ble_eq_true rfl) (sto_2_1 rfl) ?_
  refine w_aloadn f192_56 rfl (by omega) ?_
  refine w_iconst (v := 0) f192_57 (by decide) ?_
  refine w_putI f192_58 (by assumption) ?_
  refine w_iloadn f192_61 rfl ?_
  refine w_iconst (v := -1) f192_62 (by decide) ?_
  refine w_ic_ne (t := 74) f192_63 (by decide) (fun c1 => ?_) (fun c1 => ?_)
  · refine w_aloadn f192_74 rfl (by omega) ?_
    refine w_aloadn f192_75 rfl (by omega) ?_
    refine w_getI f192_76 (by decide) (by assumption) (by (try simp only [hput, hcopy, Nat.reduceEqDiff, Nat.add_left_cancel_iff, Nat.add_right_cancel_iff, Nat.left_eq_add, Nat.add_eq_left, Nat.right_eq_add, Nat.add_eq_right, Nat.reduceAdd, Nat.add_zero, Nat.succ_ne_self, Nat.one_ne_zero, Nat.zero_ne_one, eq_self, and_self, and_true, true_and, and_false, false_and, if_true, if_false, reduceIte, Int.reduceToNat, Int.toNat_natCast, h18]); exact rfl) ?_
    refine w_cV f192_79 (Or.inl rfl) rfl (by omega) (okd_of (by assumption)) rfl ⟨Nat.le_of_ble_eq_true rfl, rfl, Nat.le_of_ble_eq_true rfl⟩ (en191 _ _) (s191 (hF2.b hb) (hF2.n hn) h7 hs.1) (pv191 _ _) ?_
    refine w_ifb_eq (t := 135) f192_82 (by decide) (fun c2 => ?_) (fun c2 => ?_)
    · refine w_iloadn f192_135 rfl ?_
      refine w_bipush (v := 48) f192_136 (by decide) ?_
      refine w_bipush (v := 57) f192_138 (by decide) ?_
      refine w_cS f192_140 (Or.inl rfl) (Nat.le_of_ble_eq_true rfl) rfl rfl ⟨Nat.le_of_ble_eq_true rfl, rfl, Nat.le_of_ble_eq_true rfl⟩ (en148 _ _ _) (s148) (pv148 _ _) ?_
      refine w_ifb_eq (t := 245) f192_143 (by decide) (fun c3 => ?_) (fun c3 => ?_)
      · refine w_aloadn f192_245 rfl (by omega) ?_
        refine w_iloadn f192_246 rfl ?_
        refine w_bipush (v := 59) f192_247 (by decide) ?_
        refine w_ic_ne (t := 256) f192_249 (by decide) (fun c4 => ?_) (fun c4 => ?_)
        · refine w_iconst (v := 4) f192_256 (by decide) ?_
          refine w_putI f192_257 (by assumption) ?_
          refine w_aloadn f192_260 rfl (by omega) ?_
          refine w_dup f192_261 rfl ?_
          refine w_getI f192_262 (by decide) (by assumption) (by (try simp only [hput]); exact h18) ?_
          refine w_iconst (v := 1) f192_265 (by decide) ?_
          refine w_iaddn f192_266 (by omega) ?_
          refine w_putI f192_267 (by assumption) ?_
          refine w_ret f192_270 rfl ?_
          first | (refine ⟨_, hF2.put (by decide), ?_, rfl⟩; rw [show tkF b n s = (s, s, 0, 0) from if_pos c1]; exact ⟨rfl, h18, rfl, rfl⟩; done) | (refine ⟨_, (hF2.put (by decide)).put (by decide), ?_, rfl⟩; unfold isL at c2; rw [show tkF b n s = (s, s + 1, 0, if bAt b n s = 59 then 3 else 4) from by unfold tkF; rw [if_neg c1, if_neg c2, if_neg (by omega)]]; refine ⟨rfl, hput_s, rfl, ?_⟩; first | exact (if_neg (by omega)).symm | exact (if_pos (by omega)).symm)
        · refine w_iconst (v := 3) f192_252 (by decide) ?_
          refine w_goto (t := 257) f192_253 (by decide) ?_
          refine w_putI f192_257 (by assumption) ?_
          refine w_aloadn f192_260 rfl (by omega) ?_
          refine w_dup f192_261 rfl ?_
          refine w_getI f192_262 (by decide) (by assumption) (by (try simp only [hput]); exact h18) ?_
          refine w_iconst (v := 1) f192_265 (by decide) ?_
          refine w_iaddn f192_266 (by omega) ?_
          refine w_putI f192_267 (by assumption) ?_
          refine w_ret f192_270 rfl ?_
          first | (refine ⟨_, hF2.put (by decide), ?_, rfl⟩; rw [show tkF b n s = (s, s, 0, 0) from if_pos c1]; exact ⟨rfl, h18, rfl, rfl⟩; done) | (refine ⟨_, (hF2.put (by decide)).put (by decide), ?_, rfl⟩; unfold isL at c2; rw [show tkF b n s = (s, s + 1, 0, if bAt b n s = 59 then 3 else 4) from by unfold tkF; rw [if_neg c1, if_neg c2, if_neg (by omega)]]; refine ⟨rfl, hput_s, rfl, ?_⟩; first | exact (if_neg (by omega)).symm | exact (if_pos (by omega)).symm)
      · unfold isL at c2
        refine l192c (h0 := hput (hput h 268 19 s) 268 20 0) (s := s) (hF2.b hb) (hF2.n hn) h7 rfl hs.1 (n - s).toNat s 0 _ (Int.le_refl _) hs.2 (by omega) TkF.rf h18 rfl (by omega) (by omega) (by omega) (by omega) (by omega) (fun _ _ _ => rfl) (fun h1 q1 q2 q3 q4 q5 q6 => ?_)
        rw [show tkF b n s = (s, (dgE b n s (n - s).toNat s 0).1, (dgE b n s (n - s).toNat s 0).2, if 3 < (dgE b n s (n - s).toNat s 0).1 - s then 4 else 2) from by unfold tkF; rw [if_neg c1, if_neg c2, if_pos (by assumption)]]
        exact l192e (hF2.tr q1) q2 ((q6 19 (by decide) (by decide)).trans rfl) q3 ⟨hs.1, q4, q5⟩
    · unfold isL at c2
      refine l192b (h0 := hput (hput h 268 19 s) 268 20 0) (hF2.b hb) (hF2.n hn) h7 (n - s).toNat s _ hs.1 hs.2 (by omega) TkF.rf h18 (fun _ _ => rfl) (fun h1 q1 q2 q3 q4 q5 => ?_)
      rw [show tkF b n s = (s, ltE b n (n - s).toNat s, 0, if 8 < ltE b n (n - s).toNat s - s then 4 else 1) from by unfold tkF; rw [if_neg c1, if_pos c2]]
      exact l192d (hF2.tr q1) q2 ((q5 19 (by decide)).trans rfl) ((q5 20 (by decide)).trans rfl) ⟨hs.1, q3, q4⟩
  · refine w_aloadn f192_66 rfl (by omega) ?_
    refine w_iconst (v := 0) f192_67 (by decide) ?_
    refine w_putI f192_68 (by assumption) ?_
    refine w_goto (t := 270) f192_71 (by decide) ?_
    refine w_ret f192_270 rfl ?_
    first | (refine ⟨_, hF2.put (by decide), ?_, rfl⟩; rw [show tkF b n s = (s, s, 0, 0) from if_pos c1]; exact ⟨rfl, h18, rfl, rfl⟩; done) | (refine ⟨_, (hF2.put (by decide)).put (by decide), ?_, rfl⟩; unfold isL at c2; rw [show tkF b n s = (s, s + 1, 0, if bAt b n s = 59 then 3 else 4) from by unfold tkF; rw [if_neg c1, if_neg c2, if_neg (by omega)]]; refine ⟨rfl, hput_s, rfl, ?_⟩; first | exact (if_neg (by omega)).symm | exact (if_pos (by omega)).symm)
theorem s192 {b : Nat → Int} {n p : Int} (hb : h 275 = b) (hn : h 268 13 = n) (h7 : n ≤ 700) (h18 : h 268 18 = p) (hp : 0 ≤ p ∧ p ≤ 700) : Rn (ev 192 0 [AR 268, AU] [] (KS r d, h, R)) (fun o => ∃ h1, TkF h h1 ∧ TkA h1 (tok b n p) ∧ o = (.inl AU, (KS r d, h1, R))) := by
  refine l192a hb hn h7 (n - p).toNat p h hp.1 hp.2 (by omega) TkF.rf h18 (fun h1 q1 q2 q3 q4 => ?_)
  exact l192f hb hn h7 q1 q2 ⟨q3, q4⟩
theorem skW_r {b : Nat → Int} {n : Int} : ∀ (f : Nat) (p : Int), p ≤ 700 → n ≤ 700 → p ≤ skW b n f p ∧ skW b n f p ≤ 700
  | 0, p, h, _ => ⟨Int.le_refl _, h⟩
  | f + 1, p, h, h7 => by
    unfold skW
    split
    · next q =>
      have : p < n := Classical.byContradiction (fun z => by have := bAt_n (b := b) (n := n) (k := p) (by omega); omega)
      have := skW_r (b := b) f (p + 1) (by omega) h7
      omega
    · omega
theorem dgE_r {b : Nat → Int} {n s : Int} : ∀ (f : Nat) (p v : Int), p ≤ 700 → n ≤ 700 → p ≤ (dgE b n s f p v).1 ∧ (dgE b n s f p v).1 ≤ 700
  | 0, p, v, h, _ => ⟨Int.le_refl _, h⟩
  | f + 1, p, v, h, h7 => by
    unfold dgE
    split
    · next q =>
      have : p < n := Classical.byContradiction (fun z => by have := bAt_n (b := b) (n := n) (k := p) (by omega); omega)
      have := dgE_r (b := b) (s := s) f (p + 1) (if p - s < 3 then 10 * v + bAt b n p - 48 else v) (by omega) h7
      omega
    · exact ⟨Int.le_refl _, h⟩
def TR (T : Tk) : Prop := 0 ≤ T.1 ∧ T.1 ≤ T.2.1 ∧ T.2.1 ≤ 700
theorem tok_r {b : Nat → Int} {n p : Int} (h7 : n ≤ 700) (hp : 0 ≤ p ∧ p ≤ 700) : TR (tok b n p) := by
  obtain ⟨a1, a2⟩ := skW_r (b := b) (n := n) (n - p).toNat p hp.2 h7
  unfold tok
  generalize skW b n (n - p).toNat p = s at a1 a2
  unfold tkF TR
  split
  · show 0 ≤ s ∧ s ≤ s ∧ s ≤ 700; omega
  · next q =>
    have : s < n := Classical.byContradiction (fun z => q (bAt_n (by omega)))
    split
    · have := ltE_r (b := b) (n := n) (n - s).toNat s a2 h7
      show 0 ≤ s ∧ s ≤ ltE b n (n - s).toNat s ∧ ltE b n (n - s).toNat s ≤ 700; omega
    · split
      · have := dgE_r (b := b) (n := n) (s := s) (n - s).toNat s 0 a2 h7
        show 0 ≤ s ∧ s ≤ (dgE b n s (n - s).toNat s 0).1 ∧ (dgE b n s (n - s).toNat s 0).1 ≤ 700; omega
      · show 0 ≤ s ∧ s ≤ s + 1 ∧ s + 1 ≤ 700; omega
end A

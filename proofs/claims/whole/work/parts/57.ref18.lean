/-! the reference's input and tokens -/
section A
variable {K : List AKd} {h : Nat → Nat → Int} {R : R4} {σ : Sg} {r d : Nat} {w : Nat → Int}
/-- the byte at k, or -1 -/
def bAt (b : Nat → Int) (n k : Int) : Int := if k < n then b k.toNat else -1
theorem s190 {b : Nat → Int} {n k : Int} (hb : h 275 = b) (hn : h 268 13 = n) (h0 : n ≤ 700) (hk : 0 ≤ k) : ev 190 0 [AR 268, AI k] [] (KS r d, h, R) = some (.inl (AI (bAt b n k)), (KS r d, h, R)) := by
  refine Rn.eq ?_
  have k0 := @kd_268 r d
  have k1 := @kd_275 r d
  refine w_iloadn f190_0 rfl ?_
  refine w_aloadn f190_1 rfl (by omega) ?_
  refine w_getI f190_2 (by decide) (by assumption) (by (try simp only [hput, hcopy, Nat.reduceEqDiff, Nat.add_left_cancel_iff, Nat.add_right_cancel_iff, Nat.left_eq_add, Nat.add_eq_left, Nat.right_eq_add, Nat.add_eq_right, Nat.reduceAdd, Nat.add_zero, Nat.succ_ne_self, Nat.one_ne_zero, Nat.zero_ne_one, eq_self, and_self, and_true, true_and, and_false, false_and, if_true, if_false, reduceIte, Int.reduceToNat, Int.toNat_natCast, hn, hb]); exact rfl) ?_
  refine w_ic_ge (t := 17) f190_5 (by decide) (fun c1 => ?_) (fun c1 => ?_)
  · refine w_iconst (v := -1) f190_17 (by decide) ?_
    refine w_iret f190_18 rfl ?_
    first | (unfold bAt; rw [if_pos (by omega)]; done) | (unfold bAt; rw [if_neg (by omega)]; done)
  · refine w_aloadn f190_8 rfl (by omega) ?_
    refine w_getR f190_9 (by assumption) rfl (by omega) ?_
    refine w_iloadn f190_12 rfl ?_
    refine w_iald f190_13 (by assumption) (by omega) (by (try simp only [hput, hcopy, Nat.reduceEqDiff, Nat.add_left_cancel_iff, Nat.add_right_cancel_iff, Nat.left_eq_add, Nat.add_eq_left, Nat.right_eq_add, Nat.add_eq_right, Nat.reduceAdd, Nat.add_zero, Nat.succ_ne_self, Nat.one_ne_zero, Nat.zero_ne_one, eq_self, and_self, and_true, true_and, and_false, false_and, if_true, if_false, reduceIte, Int.reduceToNat, Int.toNat_natCast, hn, hb]); exact rfl) ?_
    refine w_goto (t := 18) f190_14 (by decide) ?_
    refine w_iret f190_18 rfl ?_
    first | (unfold bAt; rw [if_pos (by omega)]; done) | (unfold bAt; rw [if_neg (by omega)]; done)
def isL (b : Nat → Int) (n k : Int) : Prop := 97 ≤ bAt b n k ∧ bAt b n k ≤ 122
def isD (b : Nat → Int) (n k : Int) : Prop := 48 ≤ bAt b n k ∧ bAt b n k ≤ 57
def isB (b : Nat → Int) (n k : Int) : Prop := bAt b n k = 32 ∨ bAt b n k = 10
theorem s191 {b : Nat → Int} {n k : Int} (hb : h 275 = b) (hn : h 268 13 = n) (h0 : n ≤ 700) (hk : 0 ≤ k) : ev 191 0 [AR 268, AI k] [] (KS r d, h, R) = some (.inl (AI (b2i (isL b n k))), (KS r d, h, R)) := by
  refine Rn.eq ?_
  have k0 := @kd_268 r d
  refine w_aloadn f191_0 rfl (by omega) ?_
  refine w_iloadn f191_1 rfl ?_
  refine w_cV f191_2 (Or.inl rfl) rfl (by omega) (okd_of (by assumption)) rfl ⟨Nat.le_of_ble_eq_true rfl, rfl, Nat.le_of_ble_eq_true rfl⟩ (en190 _ _) (s190 hb hn h0 hk) (pv190 _ _) ?_
  refine w_bipush (v := 97) f191_5 (by decide) ?_
  refine w_bipush (v := 122) f191_7 (by decide) ?_
  refine w_cS f191_9 (Or.inl rfl) (Nat.le_of_ble_eq_true rfl) rfl rfl ⟨Nat.le_of_ble_eq_true rfl, rfl, Nat.le_of_ble_eq_true rfl⟩ (en148 _ _ _) (s148) (pv148 _ _) ?_
  refine w_zret f191_12 rfl (b2i_01 _) ?_
  rfl
def skW (b : Nat → Int) (n : Int) : Nat → Int → Int
  | 0, p => p
  | f + 1, p => if bAt b n p = 32 ∨ bAt b n p = 10 then skW b n f (p + 1) else p
def ltE (b : Nat → Int) (n : Int) : Nat → Int → Int
  | 0, p => p
  | f + 1, p => if 97 ≤ bAt b n p ∧ bAt b n p ≤ 122 then ltE b n f (p + 1) else p
def dgE (b : Nat → Int) (n s : Int) : Nat → Int → Int → Int × Int
  | 0, p, v => (p, v)
  | f + 1, p, v => if 48 ≤ bAt b n p ∧ bAt b n p ≤ 57 then dgE b n s f (p + 1) (if p - s < 3 then 10 * v + bAt b n p - 48 else v) else (p, v)
/-- a token: its first byte, the byte behind it, its value, its kind -/
abbrev Tk : Type := Int × Int × Int × Int
def tkF (b : Nat → Int) (n s : Int) : Tk :=
  if bAt b n s = -1 then (s, s, 0, 0)
  else if 97 ≤ bAt b n s ∧ bAt b n s ≤ 122 then (s, ltE b n (n - s).toNat s, 0, if 8 < ltE b n (n - s).toNat s - s then 4 else 1)
  else if 48 ≤ bAt b n s ∧ bAt b n s ≤ 57 then (s, (dgE b n s (n - s).toNat s 0).1, (dgE b n s (n - s).toNat s 0).2, if 3 < (dgE b n s (n - s).toNat s 0).1 - s then 4 else 2)
  else (s, s + 1, 0, if bAt b n s = 59 then 3 else 4)
def tok (b : Nat → Int) (n p : Int) : Tk := tkF b n (skW b n (n - p).toNat p)
def TkA (h : Nat → Nat → Int) (T : Tk) : Prop := h 268 19 = T.1 ∧ h 268 18 = T.2.1 ∧ h 268 20 = T.2.2.1 ∧ h 268 21 = T.2.2.2
/-- only the token has changed -/
def TkF (h h1 : Nat → Nat → Int) : Prop := ∀ x y, ¬ (x = 268 ∧ 18 ≤ y ∧ y ≤ 21) → h1 x y = h x y
theorem TkF.rf : TkF h h := fun _ _ _ => rfl
theorem TkF.put {h1 : Nat → Nat → Int} {j : Nat} {v : Int} (q : TkF h h1) (hj : 18 ≤ j ∧ j ≤ 21) : TkF h (hput h1 268 j v) := fun x y n => (if_neg (fun z => n ⟨z.1, by omega, by omega⟩)).trans (q x y n)
theorem bAt_n {b : Nat → Int} {n k : Int} (e : n ≤ k) : bAt b n k = -1 := if_neg (by omega)
theorem TkF.b {h1 : Nat → Nat → Int} {b : Nat → Int} (q : TkF h h1) (hb : h 275 = b) : h1 275 = b := by
  subst hb
  exact funext fun y => q 275 y (fun z => absurd z.1 (by decide))
theorem TkF.n {h1 : Nat → Nat → Int} {n : Int} (q : TkF h h1) (hn : h 268 13 = n) : h1 268 13 = n := (q 268 13 (by omega)).trans hn
/-- while blank -/
theorem l192a {h0 : Nat → Nat → Int} {b : Nat → Int} {n : Int} {Q : Out → Prop} (hb : h0 275 = b) (hn : h0 268 13 = n) (h7 : n ≤ 700) : ∀ (f : Nat) (p : Int) (h : Nat → Nat → Int), 0 ≤ p → p ≤ 700 → n - p ≤ f → TkF h0 h → h 268 18 = p →
    (∀ h1, TkF h0 h1 → h1 268 18 = skW b n f p → 0 ≤ skW b n f p → skW b n f p ≤ 700 → Rn (ev 192 39 [AR 268, AU] [] (KS r d, h1, R)) Q) → Rn (ev 192 0 [AR 268, AU] [] (KS r d, h, R)) Q := by
  intro f
  have k0 := @kd_268 r d
  induction f with
  | zero =>
    intro p h h1 h2 h3 hF hp g
    have e := bAt_n (b := b) (n := n) (k := p) (by omega)
    refine w_aloadn f192_0 rfl (by omega) ?_
    refine w_aloadn f192_1 rfl (by omega) ?_
    refine w_getI f192_2 (by decide) (by assumption) (by (try simp only [hput, hcopy, Nat.reduceEqDiff, Nat.add_left_cancel_iff, Nat.add_right_cancel_iff, Nat.left_eq_add, Nat.add_eq_left, Nat.right_eq_add, Nat.add_eq_right, Nat.reduceAdd, Nat.add_zero, Nat.succ_ne_self, Nat.one_ne_zero, Nat.zero_ne_one, eq_self, and_self, and_true, true_and, and_false, false_and, if_true, if_false, reduceIte, Int.reduceToNat, Int.toNat_natCast, hp]); exact rfl) ?_
    refine w_cV f192_5 (Or.inl rfl) rfl (by omega) (okd_of (by assumption)) rfl ⟨Nat.le_of_ble_eq_true rfl, rfl, Nat.le_of_ble_eq_true rfl⟩ (en190 _ _) (s190 (hF.b hb) (hF.n hn) h7 h1) (pv190 _ _) ?_
    refine w_bipush (v := 32) f192_8 (by decide) ?_
    refine w_ic_eq (t := 26) f192_10 (by decide) (fun c1 => by omega) (fun c1 => ?_)
    refine w_aloadn f192_13 rfl (by omega) ?_
    refine w_aloadn f192_14 rfl (by omega) ?_
    refine w_getI f192_15 (by decide) (by assumption) (by (try simp only [hput, hcopy, Nat.reduceEqDiff, Nat.add_left_cancel_iff, Nat.add_right_cancel_iff, Nat.left_eq_add, Nat.add_eq_left, Nat.right_eq_add, Nat.add_eq_right, Nat.reduceAdd, Nat.add_zero, Nat.succ_ne_self, Nat.one_ne_zero, Nat.zero_ne_one, eq_self, and_self, and_true, true_and, and_false, false_and, if_true, if_false, reduceIte, Int.reduceToNat, Int.toNat_natCast, hp]); exact rfl) ?_
    refine w_cV f192_18 (Or.inl rfl) rfl (by omega) (okd_of (by assumption)) rfl ⟨Nat.le_of_ble_eq_true rfl, rfl, Nat.le_of_ble_eq_true rfl⟩ (en190 _ _) (s190 (hF.b hb) (hF.n hn) h7 h1) (pv190 _ _) ?_
    refine w_bipush (v := 10) f192_21 (by decide) ?_
    refine w_ic_ne (t := 39) f192_23 (by decide) (fun c2 => ?_) (fun c2 => by omega)
    exact g h hF hp h1 h2
  | succ f ih =>
    intro p h h1 h2 h3 hF hp g
    have e : bAt b n p ≠ -1 → p < n := fun z => Classical.byContradiction (fun z1 => z (bAt_n (by omega)))
    refine w_aloadn f192_0 rfl (by omega) ?_
    refine w_aloadn f192_1 rfl (by omega) ?_
    refine w_getI f192_2 (by decide) (by assumption) (by (try simp only [hput, hcopy, Nat.reduceEqDiff, Nat.add_left_cancel_iff, Nat.add_right_cancel_iff, Nat.left_eq_add, Nat.add_eq_left, Nat.right_eq_add, Nat.add_eq_right, Nat.reduceAdd, Nat.add_zero, Nat.succ_ne_self, Nat.one_ne_zero, Nat.zero_ne_one, eq_self, and_self, and_true, true_and, and_false, false_and, if_true, if_false, reduceIte, Int.reduceToNat, Int.toNat_natCast, hp]); exact rfl) ?_
    refine w_cV f192_5 (Or.inl rfl) rfl (by omega) (okd_of (by assumption)) rfl ⟨Nat.le_of_ble_eq_true rfl, rfl, Nat.le_of_ble_eq_true rfl⟩ (en190 _ _) (s190 (hF.b hb) (hF.n hn) h7 h1) (pv190 _ _) ?_
    refine w_bipush (v := 32) f192_8 (by decide) ?_
    refine w_ic_eq (t := 26) f192_10 (by decide) (fun c1 => ?_) (fun c1 => ?_)
    · have e1 := e (by omega)
      refine w_aloadn f192_26 rfl (by omega) ?_
      refine w_dup f192_27 rfl ?_
      refine w_getI f192_28 (by decide) (by assumption) (by (try simp only [hput, hcopy, Nat.reduceEqDiff, Nat.add_left_cancel_iff, Nat.add_right_cancel_iff, Nat.left_eq_add, Nat.add_eq_left, Nat.right_eq_add, Nat.add_eq_right, Nat.reduceAdd, Nat.add_zero, Nat.succ_ne_self, Nat.one_ne_zero, Nat.zero_ne_one, eq_self, and_self, and_true, true_and, and_false, false_and, if_true, if_false, reduceIte, Int.reduceToNat, Int.toNat_natCast, hp]); exact rfl) ?_
      refine w_iconst (v := 1) f192_31 (by decide) ?_
      refine w_iaddn f192_32 (by omega) ?_
      refine w_putI f192_33 (by assumption) ?_
      refine w_goto (t := 0) f192_36 (by decide) ?_
      have e2 : skW b n (f + 1) p = skW b n f (p + 1) := by simp only [skW]; rw [if_pos (by omega)]
      rw [e2] at g
      exact ih (p + 1) _ (by omega) (by omega) (by omega) (hF.put (by decide)) hput_s g
    · refine w_aloadn f192_13 rfl (by omega) ?_
      refine w_aloadn f192_14 rfl (by omega) ?_
      refine w_getI f192_15 (by decide) (by assumption) (by (try simp only [hput, hcopy, Nat.reduceEqDiff, Nat.add_left_cancel_iff, Nat.add_right_cancel_iff, Nat.left_eq_add, Nat.add_eq_left, Nat.right_eq_add, Nat.add_eq_right, Nat.reduceAdd, Nat.add_zero, Nat.succ_ne_self, Nat.one_ne_zero, Nat.zero_ne_one, eq_self, and_self, and_true, true_and, and_false, false_and, if_true, if_false, reduceIte, Int.reduceToNat, Int.toNat_natCast, hp]); exact rfl) ?_
      refine w_cV f192_18 (Or.inl rfl) rfl (by omega) (okd_of (by assumption)) rfl ⟨Nat.le_of_ble_eq_true rfl, rfl, Nat.le_of_ble_eq_true rfl⟩ (en190 _ _) (s190 (hF.b hb) (hF.n hn) h7 h1) (pv190 _ _) ?_
      refine w_bipush (v := 10) f192_21 (by decide) ?_
      refine w_ic_ne (t := 39) f192_23 (by decide) (fun c2 => ?_) (fun c2 => ?_)
      · have e2 : skW b n (f + 1) p = p := by simp only [skW]; rw [if_neg (by omega)]
        rw [e2] at g
        exact g h hF hp h1 h2
      · have e1 := e (by omega)
        refine w_aloadn f192_26 rfl (by omega) ?_
        refine w_dup f192_27 rfl ?_
        refine w_getI f192_28 (by decide) (by assumption) (by (try simp only [hput, hcopy, Nat.reduceEqDiff, Nat.add_left_cancel_iff, Nat.add_right_cancel_iff, Nat.left_eq_add, Nat.add_eq_left, Nat.right_eq_add, Nat.add_eq_right, Nat.reduceAdd, Nat.add_zero, Nat.succ_ne_self, Nat.one_ne_zero, Nat.zero_ne_one, eq_self, and_self, and_true, true_and, and_false, false_and, if_true, if_false, reduceIte, Int.reduceToNat, Int.toNat_natCast, hp]); exact rfl) ?_
        refine w_iconst (v := 1) f192_31 (by decide) ?_
        refine w_iaddn f192_32 (by omega) ?_
        refine w_putI f192_33 (by assumption) ?_
        refine w_goto (t := 0) f192_36 (by decide) ?_
        have e2 : skW b n (f + 1) p = skW b n f (p + 1) := by simp only [skW]; rw [if_pos (by omega)]
        rw [e2] at g
        exact ih (p + 1) _ (by omega) (by omega) (by omega) (hF.put (by decide)) hput_s g
/-- while a letter -/
theorem l192b {h0 : Nat → Nat → Int} {b : Nat → Int} {n c : Int} {Q : Out → Prop} (hb : h0 275 = b) (hn : h0 268 13 = n) (h7 : n ≤ 700) : ∀ (f : Nat) (p : Int) (h : Nat → Nat → Int), 0 ≤ p → p ≤ 700 → n - p ≤ f → TkF h0 h → h 268 18 = p → (∀ y, y ≠ 18 → h 268 y = h0 268 y) →
    (∀ h1, TkF h0 h1 → h1 268 18 = ltE b n f p → p ≤ ltE b n f p → ltE b n f p ≤ 700 → (∀ y, y ≠ 18 → h1 268 y = h0 268 y) → Rn (ev 192 109 [AR 268, AI c] [] (KS r d, h1, R)) Q) → Rn (ev 192 85 [AR 268, AI c] [] (KS r d, h, R)) Q := by
  intro f
  have k0 := @kd_268 r d
  induction f with
  | zero =>
    intro p h h1 h2 h3 hF hp hy g
    have e := bAt_n (b := b) (n := n) (k := p) (by omega)
    refine w_aloadn f192_85 rfl (by omega) ?_
    refine w_aloadn f192_86 rfl (by omega) ?_
    refine w_getI f192_87 (by decide) (by assumption) (by (try simp only [hput, hcopy, Nat.reduceEqDiff, Nat.add_left_cancel_iff, Nat.add_right_cancel_iff, Nat.left_eq_add, Nat.add_eq_left, Nat.right_eq_add, Nat.add_eq_right, Nat.reduceAdd, Nat.add_zero, Nat.succ_ne_self, Nat.one_ne_zero, Nat.zero_ne_one, eq_self, and_self, and_true, true_and, and_false, false_and, if_true, if_false, reduceIte, Int.reduceToNat, Int.toNat_natCast, hp]); exact rfl) ?_
    refine w_cV f192_90 (Or.inl rfl) rfl (by omega) (okd_of (by assumption)) rfl ⟨Nat.le_of_ble_eq_true rfl, rfl, Nat.le_of_ble_eq_true rfl⟩ (en191 _ _) (s191 (hF.b hb) (hF.n hn) h7 h1) (pv191 _ _) ?_
    refine w_ifb_eq (t := 109) f192_93 (by decide) (fun c1 => ?_) (fun c1 => by unfold isL at c1; omega)
    exact g h hF hp (Int.le_refl _) h2 hy
  | succ f ih =>
    intro p h h1 h2 h3 hF hp hy g
    have e : bAt b n p ≠ -1 → p < n := fun z => Classical.byContradiction (fun z1 => z (bAt_n (by omega)))
    refine w_aloadn f192_85 rfl (by omega) ?_
    refine w_aloadn f192_86 rfl (by omega) ?_
    refine w_getI f192_87 (by decide) (by assumption) (by (try simp only [hput, hcopy, Nat.reduceEqDiff, Nat.add_left_cancel_iff, Nat.add_right_cancel_iff, Nat.left_eq_add, Nat.add_eq_left, Nat.right_eq_add, Nat.add_eq_right, Nat.reduceAdd, Nat.add_zero, Nat.succ_ne_self, Nat.one_ne_zero, Nat.zero_ne_one, eq_self, and_self, and_true, true_and, and_false, false_and, if_true, if_false, reduceIte, Int.reduceToNat, Int.toNat_natCast, hp]); exact rfl) ?_
    refine w_cV f192_90 (Or.inl rfl) rfl (by omega) (okd_of (by assumption)) rfl ⟨Nat.le_of_ble_eq_true rfl, rfl, Nat.le_of_ble_eq_true rfl⟩ (en191 _ _) (s191 (hF.b hb) (hF.n hn) h7 h1) (pv191 _ _) ?_
    refine w_ifb_eq (t := 109) f192_93 (by decide) (fun c1 => ?_) (fun c1 => ?_)
    · unfold isL at c1
      have e2 : ltE b n (f + 1) p = p := by simp only [ltE]; rw [if_neg c1]
      rw [e2] at g
      exact g h hF hp (Int.le_refl _) h2 hy
    · unfold isL at c1
      have e1 := e (by omega)
      refine w_aloadn f192_96 rfl (by omega) ?_
      refine w_dup f192_97 rfl ?_
      refine w_getI f192_98 (by decide) (by assumption) (by (try simp only [hput, hcopy, Nat.reduceEqDiff, Nat.add_left_cancel_iff, Nat.add_right_cancel_iff, Nat.left_eq_add, Nat.add_eq_left, Nat.right_eq_add, Nat.add_eq_right, Nat.reduceAdd, Nat.add_zero, Nat.succ_ne_self, Nat.one_ne_zero, Nat.zero_ne_one, eq_self, and_self, and_true, true_and, and_false, false_and, if_true, if_false, reduceIte, Int.reduceToNat, Int.toNat_natCast, hp]); exact rfl) ?_
      refine w_iconst (v := 1) f192_101 (by decide) ?_
      refine w_iaddn f192_102 (by omega) ?_
      refine w_putI f192_103 (by assumption) ?_
      refine w_goto (t := 85) f192_106 (by decide) ?_
      have e2 : ltE b n (f + 1) p = ltE b n f (p + 1) := by simp only [ltE]; rw [if_pos c1]
      rw [e2] at g
      exact ih (p + 1) _ (by omega) (by omega) (by omega) (hF.put (by decide)) hput_s (fun y q => (hput_j q).trans (hy y q)) (fun h1 q1 q2 q3 => g h1 q1 q2 (by omega))
end A

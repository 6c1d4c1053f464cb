/-! the class's tokens, IV -/
section A
variable {K : List AKd} {h : Nat → Nat → Int} {R : R4} {σ : Sg} {r d : Nat} {w : Nat → Int} {b : Nat → Int} {n : Int}
theorem l25g {h0 : Nat → Nat → Int} (hb : h0 3 = b) (hn : h0 2 1 = n) (h7 : n ≤ 700) (hb0 : ∀ y, 0 ≤ b y) {s : Int} (hs : 0 ≤ s ∧ s ≤ 700) (hF : TcF h0 h) (hp : h 2 4 = ltE b n (n - s).toNat s) (h3 : h 2 3 = s) (h5 : h 2 5 = 0) (hr : ltE b n (n - s).toNat s ≤ 700) :
    Rn (ev 25 125 [AR 2] [] (KS r d, h, R)) (TcQ r d R h0 (tkF b n s)) := by
  have k0 := @kd_2 r d
  by_cases hl : 97 ≤ bAt b n s ∧ bAt b n s ≤ 122
  · have hsn : s < n := Classical.byContradiction (fun z => by have := bAt_n (b := b) (show n ≤ s by omega); omega)
    have hg := ltE_lt (b := b) (n := n) hs.2 h7 hl (show 0 < (n - s).toNat by omega)
    rw [tkF_l hb0 hsn hl]
    generalize ltE b n (n - s).toNat s = L at hp hr hg ⊢
    refine w_aloadn f25_125 rfl (by omega) ?_
    refine w_getI f25_126 (by decide) (by assumption) (by (try simp only [hput, hcopy, Nat.reduceEqDiff, Nat.add_left_cancel_iff, Nat.add_right_cancel_iff, Nat.left_eq_add, Nat.add_eq_left, Nat.right_eq_add, Nat.add_eq_right, Nat.reduceAdd, Nat.add_zero, Nat.succ_ne_self, Nat.one_ne_zero, Nat.zero_ne_one, eq_self, and_self, and_true, true_and, and_false, false_and, if_true, if_false, reduceIte, Int.reduceToNat, Int.toNat_natCast, hp, h3]); exact rfl) ?_
    refine w_aloadn f25_129 rfl (by omega) ?_
    refine w_getI f25_130 (by decide) (by assumption) (by (try simp only [hput, hcopy, Nat.reduceEqDiff, Nat.add_left_cancel_iff, Nat.add_right_cancel_iff, Nat.left_eq_add, Nat.add_eq_left, Nat.right_eq_add, Nat.add_eq_right, Nat.reduceAdd, Nat.add_zero, Nat.succ_ne_self, Nat.one_ne_zero, Nat.zero_ne_one, eq_self, and_self, and_true, true_and, and_false, false_and, if_true, if_false, reduceIte, Int.reduceToNat, Int.toNat_natCast, hp, h3]); exact rfl) ?_
    refine w_ic_le (t := 160) f25_133 (by decide) (fun c1 => by omega) (fun c1 => ?_)
    refine w_aloadn f25_136 rfl (by omega) ?_
    refine w_aloadn f25_137 rfl (by omega) ?_
    refine w_getI f25_138 (by decide) (by assumption) (by (try simp only [hput, hcopy, Nat.reduceEqDiff, Nat.add_left_cancel_iff, Nat.add_right_cancel_iff, Nat.left_eq_add, Nat.add_eq_left, Nat.right_eq_add, Nat.add_eq_right, Nat.reduceAdd, Nat.add_zero, Nat.succ_ne_self, Nat.one_ne_zero, Nat.zero_ne_one, eq_self, and_self, and_true, true_and, and_false, false_and, if_true, if_false, reduceIte, Int.reduceToNat, Int.toNat_natCast, hp, h3]); exact rfl) ?_
    refine w_aloadn f25_141 rfl (by omega) ?_
    refine w_getI f25_142 (by decide) (by assumption) (by (try simp only [hput, hcopy, Nat.reduceEqDiff, Nat.add_left_cancel_iff, Nat.add_right_cancel_iff, Nat.left_eq_add, Nat.add_eq_left, Nat.right_eq_add, Nat.add_eq_right, Nat.reduceAdd, Nat.add_zero, Nat.succ_ne_self, Nat.one_ne_zero, Nat.zero_ne_one, eq_self, and_self, and_true, true_and, and_false, false_and, if_true, if_false, reduceIte, Int.reduceToNat, Int.toNat_natCast, hp, h3]); exact rfl) ?_
    refine w_isubn f25_145 (by omega) ?_
    refine w_bipush (v := 8) f25_146 (by decide) ?_
    refine w_ic_le (t := 155) f25_148 (by decide) (fun c2 => ?_) (fun c2 => ?_)
    · refine w_iconst (v := 1) f25_155 (by decide) ?_
      refine w_putI f25_156 (by assumption) ?_
      refine w_ret f25_159 rfl ?_
      by_cases z3 : 8 < L - s
      · first | (exfalso; omega) | (rw [if_pos z3]; exact ⟨_, hF.put (by decide), ⟨(hput_j (by decide)).trans h3, (hput_j (by decide)).trans hp, hput_s, fun z => absurd z (show ¬ (4 : Int) = 2 by decide)⟩, rfl⟩)
      · first | (exfalso; omega) | (rw [if_neg z3]; exact ⟨_, hF.put (by decide), ⟨(hput_j (by decide)).trans h3, (hput_j (by decide)).trans hp, hput_s, fun z => absurd z (show ¬ (1 : Int) = 2 by decide)⟩, rfl⟩)
    · refine w_iconst (v := 4) f25_151 (by decide) ?_
      refine w_goto (t := 156) f25_152 (by decide) ?_
      refine w_putI f25_156 (by assumption) ?_
      refine w_ret f25_159 rfl ?_
      by_cases z3 : 8 < L - s
      · first | (exfalso; omega) | (rw [if_pos z3]; exact ⟨_, hF.put (by decide), ⟨(hput_j (by decide)).trans h3, (hput_j (by decide)).trans hp, hput_s, fun z => absurd z (show ¬ (4 : Int) = 2 by decide)⟩, rfl⟩)
      · first | (exfalso; omega) | (rw [if_neg z3]; exact ⟨_, hF.put (by decide), ⟨(hput_j (by decide)).trans h3, (hput_j (by decide)).trans hp, hput_s, fun z => absurd z (show ¬ (1 : Int) = 2 by decide)⟩, rfl⟩)
  · rw [ltE_n _ _ hl] at hp
    refine w_aloadn f25_125 rfl (by omega) ?_
    refine w_getI f25_126 (by decide) (by assumption) (by (try simp only [hput, hcopy, Nat.reduceEqDiff, Nat.add_left_cancel_iff, Nat.add_right_cancel_iff, Nat.left_eq_add, Nat.add_eq_left, Nat.right_eq_add, Nat.add_eq_right, Nat.reduceAdd, Nat.add_zero, Nat.succ_ne_self, Nat.one_ne_zero, Nat.zero_ne_one, eq_self, and_self, and_true, true_and, and_false, false_and, if_true, if_false, reduceIte, Int.reduceToNat, Int.toNat_natCast, hp, h3]); exact rfl) ?_
    refine w_aloadn f25_129 rfl (by omega) ?_
    refine w_getI f25_130 (by decide) (by assumption) (by (try simp only [hput, hcopy, Nat.reduceEqDiff, Nat.add_left_cancel_iff, Nat.add_right_cancel_iff, Nat.left_eq_add, Nat.add_eq_left, Nat.right_eq_add, Nat.add_eq_right, Nat.reduceAdd, Nat.add_zero, Nat.succ_ne_self, Nat.one_ne_zero, Nat.zero_ne_one, eq_self, and_self, and_true, true_and, and_false, false_and, if_true, if_false, reduceIte, Int.reduceToNat, Int.toNat_natCast, hp, h3]); exact rfl) ?_
    refine w_ic_le (t := 160) f25_133 (by decide) (fun c1 => ?_) (fun c1 => by omega)
    exact l25c hb hn h7 (s := s) (n - s).toNat s 0 0 h hs.1 (Int.le_refl _) hs.2 (by omega) hF hp h3 h5 (fun _ => ⟨rfl, Int.le_refl _⟩) ⟨fun _ => Int.le_refl _, fun _ => by decide, fun _ => by decide⟩ (fun h1 q1 q2 q3 q4 q5 q6 => l25e hb hn h7 hb0 hs hl q1 q2 q3 q4 q6)
theorem l25f {h0 : Nat → Nat → Int} (hb : h0 3 = b) (hn : h0 2 1 = n) (h7 : n ≤ 700) (hb0 : ∀ y, 0 ≤ b y) {s : Int} (hs : 0 ≤ s ∧ s ≤ 700) (hF : TcF h0 h) (h3 : h 2 3 = s) :
    Rn (ev 25 60 [AR 2] [] (KS r d, h, R)) (TcQ r d R h0 (tkF b n s)) := by
  have k0 := @kd_2 r d
  refine w_aloadn f25_60 rfl (by omega) ?_
  refine w_aloadn f25_61 rfl (by omega) ?_
  refine w_getI f25_62 (by decide) (by assumption) (by (try simp only [hput, hcopy, Nat.reduceEqDiff, Nat.add_left_cancel_iff, Nat.add_right_cancel_iff, Nat.left_eq_add, Nat.add_eq_left, Nat.right_eq_add, Nat.add_eq_right, Nat.reduceAdd, Nat.add_zero, Nat.succ_ne_self, Nat.one_ne_zero, Nat.zero_ne_one, eq_self, and_self, and_true, true_and, and_false, false_and, if_true, if_false, reduceIte, Int.reduceToNat, Int.toNat_natCast, h3]); exact rfl) ?_
  refine w_putI f25_65 (by assumption) ?_
  refine w_aloadn f25_68 rfl (by omega) ?_
  refine w_iconst (v := 0) f25_69 (by decide) ?_
  refine w_putI f25_70 (by assumption) ?_
  exact l25b hb hn h7 (c := s) (n - s).toNat s _ hs.1 hs.2 (by omega) ((hF.put (by decide)).put (by decide)) ((hput_j (by decide)).trans hput_s) ((hput_j (by decide)).trans ((hput_j (by decide)).trans h3)) hput_s (fun h1 q1 q2 q3 q4 q5 q6 => l25g hb hn h7 hb0 hs q1 q2 q3 q4 q6)
theorem s25 {p : Int} (hb : h 3 = b) (hn : h 2 1 = n) (h7 : n ≤ 700) (hb0 : ∀ y, 0 ≤ b y) (h4 : h 2 4 = p) (hp : 0 ≤ p ∧ p ≤ 700) : Rn (ev 25 0 [AR 2] [] (KS r d, h, R)) (TcQ r d R h (tok b n p)) := by
  have k0 := @kd_2 r d
  refine w_aloadn f25_0 rfl (by omega) ?_
  refine w_aloadn f25_1 rfl (by omega) ?_
  refine w_getI f25_2 (by decide) (by assumption) (by (try simp only [hput, hcopy, Nat.reduceEqDiff, Nat.add_left_cancel_iff, Nat.add_right_cancel_iff, Nat.left_eq_add, Nat.add_eq_left, Nat.right_eq_add, Nat.add_eq_right, Nat.reduceAdd, Nat.add_zero, Nat.succ_ne_self, Nat.one_ne_zero, Nat.zero_ne_one, eq_self, and_self, and_true, true_and, and_false, false_and, if_true, if_false, reduceIte, Int.reduceToNat, Int.toNat_natCast, h4]); exact rfl) ?_
  refine w_putI f25_5 (by assumption) ?_
  exact l25a (h0 := h) hb hn h7 (n - p).toNat p _ hp.1 hp.2 (by omega) (TcF.rf.put (by decide)) hput_s (fun h1 q1 q2 q3 q4 => l25f hb hn h7 hb0 ⟨q3, q4⟩ q1 q2)
end A

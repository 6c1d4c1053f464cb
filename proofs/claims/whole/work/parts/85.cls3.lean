/-! the class's tokens, III -/
section A
variable {K : List AKd} {h : Nat → Nat → Int} {R : R4} {σ : Sg} {r d : Nat} {w : Nat → Int} {b : Nat → Int} {n : Int}
/-- the class's token: its value counts only if it is a number -/
def TkC (h : Nat → Nat → Int) (T : Tk) : Prop := h 2 3 = T.1 ∧ h 2 4 = T.2.1 ∧ h 2 2 = T.2.2.2 ∧ (T.2.2.2 = 2 → h 2 5 = T.2.2.1)
def TcQ (r d : Nat) (R : R4) (h0 : Nat → Nat → Int) (T : Tk) : Out → Prop := fun o => ∃ h1, TcF h0 h1 ∧ TkC h1 T ∧ o = (.inl AU, (KS r d, h1, R))
theorem dgE_n {s v : Int} (f : Nat) (p : Int) (hn : ¬ (48 ≤ bAt b n p ∧ bAt b n p ≤ 57)) : dgE b n s f p v = (p, v) := by
  cases f with
  | zero => rfl
  | succ f => simp only [dgE]; rw [if_neg hn]
theorem ltE_n (f : Nat) (p : Int) (hn : ¬ (97 ≤ bAt b n p ∧ bAt b n p ≤ 122)) : ltE b n f p = p := by
  cases f with
  | zero => rfl
  | succ f => simp only [ltE]; rw [if_neg hn]
theorem tkF_0 {s : Int} (h : n ≤ s) : tkF b n s = (s, s, 0, 0) := if_pos (bAt_n h)
theorem tkF_l {s : Int} (h0 : ∀ y, 0 ≤ b y) (h : s < n) (hl : 97 ≤ bAt b n s ∧ bAt b n s ≤ 122) : tkF b n s = (s, ltE b n (n - s).toNat s, 0, if 8 < ltE b n (n - s).toNat s - s then 4 else 1) := by
  unfold tkF
  rw [if_neg (by omega), if_pos hl]
theorem tkF_d {s : Int} (hl : ¬ (97 ≤ bAt b n s ∧ bAt b n s ≤ 122)) (hd : 48 ≤ bAt b n s ∧ bAt b n s ≤ 57) : tkF b n s = (s, (dgE b n s (n - s).toNat s 0).1, (dgE b n s (n - s).toNat s 0).2, if 3 < (dgE b n s (n - s).toNat s 0).1 - s then 4 else 2) := by
  unfold tkF
  rw [if_neg (by omega), if_neg hl, if_pos hd]
theorem tkF_o {s : Int} (h0 : ∀ y, 0 ≤ b y) (h : s < n) (hl : ¬ (97 ≤ bAt b n s ∧ bAt b n s ≤ 122)) (hd : ¬ (48 ≤ bAt b n s ∧ bAt b n s ≤ 57)) : tkF b n s = (s, s + 1, 0, if bAt b n s = 59 then 3 else 4) := by
  have e := bAt_b (b := b) h
  have := h0 s.toNat
  unfold tkF
  rw [if_neg (by omega), if_neg hl, if_neg hd]
theorem l25e {h0 : Nat → Nat → Int} (hb : h0 3 = b) (hn : h0 2 1 = n) (h7 : n ≤ 700) (hb0 : ∀ y, 0 ≤ b y) {s : Int} (hs : 0 ≤ s ∧ s ≤ 700) (hl : ¬ (97 ≤ bAt b n s ∧ bAt b n s ≤ 122)) (hF : TcF h0 h) (hp : h 2 4 = (dgE b n s (n - s).toNat s 0).1) (h3 : h 2 3 = s) (hv : (dgE b n s (n - s).toNat s 0).1 - s ≤ 3 → h 2 5 = (dgE b n s (n - s).toNat s 0).2) (hr : (dgE b n s (n - s).toNat s 0).1 ≤ 700) :
    Rn (ev 25 236 [AR 2] [] (KS r d, h, R)) (TcQ r d R h0 (tkF b n s)) := by
  have k0 := @kd_2 r d
  have k1 := @kd_3 r d
  have hn1 := hF.nn hn
  have hb1 := hF.bb hb
  by_cases c : n ≤ s
  · have e := bAt_n (b := b) c
    have eD := dgE_n (b := b) (n := n) (s := s) (v := 0) (n - s).toNat s (by omega)
    rw [eD] at hp hv
    rw [tkF_0 c]
    refine w_aloadn f25_236 rfl (by omega) ?_
    refine w_getI f25_237 (by decide) (by assumption) (by (try simp only [hput, hcopy, Nat.reduceEqDiff, Nat.add_left_cancel_iff, Nat.add_right_cancel_iff, Nat.left_eq_add, Nat.add_eq_left, Nat.right_eq_add, Nat.add_eq_right, Nat.reduceAdd, Nat.add_zero, Nat.succ_ne_self, Nat.one_ne_zero, Nat.zero_ne_one, eq_self, and_self, and_true, true_and, and_false, false_and, if_true, if_false, reduceIte, Int.reduceToNat, Int.toNat_natCast, hp, h3, hn1]); exact rfl) ?_
    refine w_aloadn f25_240 rfl (by omega) ?_
    refine w_getI f25_241 (by decide) (by assumption) (by (try simp only [hput, hcopy, Nat.reduceEqDiff, Nat.add_left_cancel_iff, Nat.add_right_cancel_iff, Nat.left_eq_add, Nat.add_eq_left, Nat.right_eq_add, Nat.add_eq_right, Nat.reduceAdd, Nat.add_zero, Nat.succ_ne_self, Nat.one_ne_zero, Nat.zero_ne_one, eq_self, and_self, and_true, true_and, and_false, false_and, if_true, if_false, reduceIte, Int.reduceToNat, Int.toNat_natCast, hp, h3, hn1]); exact rfl) ?_
    refine w_ic_le (t := 272) f25_244 (by decide) (fun c1 => ?_) (fun c1 => by omega)
    refine w_aloadn f25_272 rfl (by omega) ?_
    refine w_getI f25_273 (by decide) (by assumption) (by (try simp only [hput, hcopy, Nat.reduceEqDiff, Nat.add_left_cancel_iff, Nat.add_right_cancel_iff, Nat.left_eq_add, Nat.add_eq_left, Nat.right_eq_add, Nat.add_eq_right, Nat.reduceAdd, Nat.add_zero, Nat.succ_ne_self, Nat.one_ne_zero, Nat.zero_ne_one, eq_self, and_self, and_true, true_and, and_false, false_and, if_true, if_false, reduceIte, Int.reduceToNat, Int.toNat_natCast, hp, h3, hn1]); exact rfl) ?_
    refine w_aloadn f25_276 rfl (by omega) ?_
    refine w_getI f25_277 (by decide) (by assumption) (by (try simp only [hput, hcopy, Nat.reduceEqDiff, Nat.add_left_cancel_iff, Nat.add_right_cancel_iff, Nat.left_eq_add, Nat.add_eq_left, Nat.right_eq_add, Nat.add_eq_right, Nat.reduceAdd, Nat.add_zero, Nat.succ_ne_self, Nat.one_ne_zero, Nat.zero_ne_one, eq_self, and_self, and_true, true_and, and_false, false_and, if_true, if_false, reduceIte, Int.reduceToNat, Int.toNat_natCast, hp, h3, hn1]); exact rfl) ?_
    refine w_ic_lt (t := 291) f25_280 (by decide) (fun c2 => by omega) (fun c2 => ?_)
    refine w_aloadn f25_283 rfl (by omega) ?_
    refine w_iconst (v := 0) f25_284 (by decide) ?_
    refine w_putI f25_285 (by assumption) ?_
    refine w_goto (t := 324) f25_288 (by decide) ?_
    refine w_ret f25_324 rfl ?_
    exact ⟨_, hF.put (by decide), ⟨(hput_j (by decide)).trans h3, (hput_j (by decide)).trans hp, hput_s, fun z => absurd z (show ¬ (0 : Int) = 2 by decide)⟩, rfl⟩
  · have e := bAt_b (b := b) (show s < n by omega)
    by_cases hd : 48 ≤ bAt b n s ∧ bAt b n s ≤ 57
    · have hg := dgE_lt (b := b) (n := n) (s := s) (v := 0) hs.2 h7 hd (show 0 < (n - s).toNat by omega)
      rw [tkF_d hl hd]
      generalize (dgE b n s (n - s).toNat s 0) = D at hp hv hr hg ⊢
      refine w_aloadn f25_236 rfl (by omega) ?_
      refine w_getI f25_237 (by decide) (by assumption) (by (try simp only [hput, hcopy, Nat.reduceEqDiff, Nat.add_left_cancel_iff, Nat.add_right_cancel_iff, Nat.left_eq_add, Nat.add_eq_left, Nat.right_eq_add, Nat.add_eq_right, Nat.reduceAdd, Nat.add_zero, Nat.succ_ne_self, Nat.one_ne_zero, Nat.zero_ne_one, eq_self, and_self, and_true, true_and, and_false, false_and, if_true, if_false, reduceIte, Int.reduceToNat, Int.toNat_natCast, hp, h3, hn1]); exact rfl) ?_
      refine w_aloadn f25_240 rfl (by omega) ?_
      refine w_getI f25_241 (by decide) (by assumption) (by (try simp only [hput, hcopy, Nat.reduceEqDiff, Nat.add_left_cancel_iff, Nat.add_right_cancel_iff, Nat.left_eq_add, Nat.add_eq_left, Nat.right_eq_add, Nat.add_eq_right, Nat.reduceAdd, Nat.add_zero, Nat.succ_ne_self, Nat.one_ne_zero, Nat.zero_ne_one, eq_self, and_self, and_true, true_and, and_false, false_and, if_true, if_false, reduceIte, Int.reduceToNat, Int.toNat_natCast, hp, h3, hn1]); exact rfl) ?_
      refine w_ic_le (t := 272) f25_244 (by decide) (fun c1 => by omega) (fun c1 => ?_)
      refine w_aloadn f25_247 rfl (by omega) ?_
      refine w_aloadn f25_248 rfl (by omega) ?_
      refine w_getI f25_249 (by decide) (by assumption) (by (try simp only [hput, hcopy, Nat.reduceEqDiff, Nat.add_left_cancel_iff, Nat.add_right_cancel_iff, Nat.left_eq_add, Nat.add_eq_left, Nat.right_eq_add, Nat.add_eq_right, Nat.reduceAdd, Nat.add_zero, Nat.succ_ne_self, Nat.one_ne_zero, Nat.zero_ne_one, eq_self, and_self, and_true, true_and, and_false, false_and, if_true, if_false, reduceIte, Int.reduceToNat, Int.toNat_natCast, hp, h3, hn1]); exact rfl) ?_
      refine w_aloadn f25_252 rfl (by omega) ?_
      refine w_getI f25_253 (by decide) (by assumption) (by (try simp only [hput, hcopy, Nat.reduceEqDiff, Nat.add_left_cancel_iff, Nat.add_right_cancel_iff, Nat.left_eq_add, Nat.add_eq_left, Nat.right_eq_add, Nat.add_eq_right, Nat.reduceAdd, Nat.add_zero, Nat.succ_ne_self, Nat.one_ne_zero, Nat.zero_ne_one, eq_self, and_self, and_true, true_and, and_false, false_and, if_true, if_false, reduceIte, Int.reduceToNat, Int.toNat_natCast, hp, h3, hn1]); exact rfl) ?_
      refine w_isubn f25_256 (by omega) ?_
      refine w_iconst (v := 3) f25_257 (by decide) ?_
      refine w_ic_le (t := 265) f25_258 (by decide) (fun c2 => ?_) (fun c2 => ?_)
      · refine w_iconst (v := 2) f25_265 (by decide) ?_
        refine w_putI f25_266 (by assumption) ?_
        refine w_goto (t := 324) f25_269 (by decide) ?_
        refine w_ret f25_324 rfl ?_
        by_cases z3 : 3 < D.1 - s
        · first | (exfalso; omega) | (rw [if_pos z3]; exact ⟨_, hF.put (by decide), ⟨(hput_j (by decide)).trans h3, (hput_j (by decide)).trans hp, hput_s, fun z => absurd z (show ¬ (4 : Int) = 2 by decide)⟩, rfl⟩)
        · first | (exfalso; omega) | (rw [if_neg z3]; exact ⟨_, hF.put (by decide), ⟨(hput_j (by decide)).trans h3, (hput_j (by decide)).trans hp, hput_s, fun z => (hput_j (by decide)).trans (hv (by omega))⟩, rfl⟩)
      · refine w_iconst (v := 4) f25_261 (by decide) ?_
        refine w_goto (t := 266) f25_262 (by decide) ?_
        refine w_putI f25_266 (by assumption) ?_
        refine w_goto (t := 324) f25_269 (by decide) ?_
        refine w_ret f25_324 rfl ?_
        by_cases z3 : 3 < D.1 - s
        · first | (exfalso; omega) | (rw [if_pos z3]; exact ⟨_, hF.put (by decide), ⟨(hput_j (by decide)).trans h3, (hput_j (by decide)).trans hp, hput_s, fun z => absurd z (show ¬ (4 : Int) = 2 by decide)⟩, rfl⟩)
        · first | (exfalso; omega) | (rw [if_neg z3]; exact ⟨_, hF.put (by decide), ⟨(hput_j (by decide)).trans h3, (hput_j (by decide)).trans hp, hput_s, fun z => (hput_j (by decide)).trans (hv (by omega))⟩, rfl⟩)
    · have eD := dgE_n (b := b) (n := n) (s := s) (v := 0) (n - s).toNat s hd
      rw [eD] at hp hv
      rw [tkF_o hb0 (by omega) hl hd]
      refine w_aloadn f25_236 rfl (by omega) ?_
      refine w_getI f25_237 (by decide) (by assumption) (by (try simp only [hput, hcopy, Nat.reduceEqDiff, Nat.add_left_cancel_iff, Nat.add_right_cancel_iff, Nat.left_eq_add, Nat.add_eq_left, Nat.right_eq_add, Nat.add_eq_right, Nat.reduceAdd, Nat.add_zero, Nat.succ_ne_self, Nat.one_ne_zero, Nat.zero_ne_one, eq_self, and_self, and_true, true_and, and_false, false_and, if_true, if_false, reduceIte, Int.reduceToNat, Int.toNat_natCast, hp, h3, hn1, hb1]); exact rfl) ?_
      refine w_aloadn f25_240 rfl (by omega) ?_
      refine w_getI f25_241 (by decide) (by assumption) (by (try simp only [hput, hcopy, Nat.reduceEqDiff, Nat.add_left_cancel_iff, Nat.add_right_cancel_iff, Nat.left_eq_add, Nat.add_eq_left, Nat.right_eq_add, Nat.add_eq_right, Nat.reduceAdd, Nat.add_zero, Nat.succ_ne_self, Nat.one_ne_zero, Nat.zero_ne_one, eq_self, and_self, and_true, true_and, and_false, false_and, if_true, if_false, reduceIte, Int.reduceToNat, Int.toNat_natCast, hp, h3, hn1, hb1]); exact rfl) ?_
      refine w_ic_le (t := 272) f25_244 (by decide) (fun c1 => ?_) (fun c1 => by omega)
      refine w_aloadn f25_272 rfl (by omega) ?_
      refine w_getI f25_273 (by decide) (by assumption) (by (try simp only [hput, hcopy, Nat.reduceEqDiff, Nat.add_left_cancel_iff, Nat.add_right_cancel_iff, Nat.left_eq_add, Nat.add_eq_left, Nat.right_eq_add, Nat.add_eq_right, Nat.reduceAdd, Nat.add_zero, Nat.succ_ne_self, Nat.one_ne_zero, Nat.zero_ne_one, eq_self, and_self, and_true, true_and, and_false, false_and, if_true, if_false, reduceIte, Int.reduceToNat, Int.toNat_natCast, hp, h3, hn1, hb1]); exact rfl) ?_
      refine w_aloadn f25_276 rfl (by omega) ?_
      refine w_getI f25_277 (by decide) (by assumption) (by (try simp only [hput, hcopy, Nat.reduceEqDiff, Nat.add_left_cancel_iff, Nat.add_right_cancel_iff, Nat.left_eq_add, Nat.add_eq_left, Nat.right_eq_add, Nat.add_eq_right, Nat.reduceAdd, Nat.add_zero, Nat.succ_ne_self, Nat.one_ne_zero, Nat.zero_ne_one, eq_self, and_self, and_true, true_and, and_false, false_and, if_true, if_false, reduceIte, Int.reduceToNat, Int.toNat_natCast, hp, h3, hn1, hb1]); exact rfl) ?_
      refine w_ic_lt (t := 291) f25_280 (by decide) (fun c2 => ?_) (fun c2 => by omega)
      refine w_aloadn f25_291 rfl (by omega) ?_
      refine w_aloadn f25_292 rfl (by omega) ?_
      refine w_getR f25_293 (by assumption) rfl (by omega) ?_
      refine w_aloadn f25_296 rfl (by omega) ?_
      refine w_getI f25_297 (by decide) (by assumption) (by (try simp only [hput, hcopy, Nat.reduceEqDiff, Nat.add_left_cancel_iff, Nat.add_right_cancel_iff, Nat.left_eq_add, Nat.add_eq_left, Nat.right_eq_add, Nat.add_eq_right, Nat.reduceAdd, Nat.add_zero, Nat.succ_ne_self, Nat.one_ne_zero, Nat.zero_ne_one, eq_self, and_self, and_true, true_and, and_false, false_and, if_true, if_false, reduceIte, Int.reduceToNat, Int.toNat_natCast, hp, h3, hn1, hb1]); exact rfl) ?_
      refine w_iald f25_300 (by assumption) (by omega) (by (try simp only [hput, hcopy, Nat.reduceEqDiff, Nat.add_left_cancel_iff, Nat.add_right_cancel_iff, Nat.left_eq_add, Nat.add_eq_left, Nat.right_eq_add, Nat.add_eq_right, Nat.reduceAdd, Nat.add_zero, Nat.succ_ne_self, Nat.one_ne_zero, Nat.zero_ne_one, eq_self, and_self, and_true, true_and, and_false, false_and, if_true, if_false, reduceIte, Int.reduceToNat, Int.toNat_natCast, hp, h3, hn1, hb1]); exact rfl) ?_
      refine w_bipush (v := 59) f25_301 (by decide) ?_
      refine w_ic_ne (t := 310) f25_303 (by decide) (fun c3 => ?_) (fun c3 => ?_)
      · refine w_iconst (v := 4) f25_310 (by decide) ?_
        refine w_putI f25_311 (by assumption) ?_
        refine w_aloadn f25_314 rfl (by omega) ?_
        refine w_dup f25_315 rfl ?_
        refine w_getI f25_316 (by decide) (by assumption) (by (try simp only [hput, hcopy, Nat.reduceEqDiff, Nat.add_left_cancel_iff, Nat.add_right_cancel_iff, Nat.left_eq_add, Nat.add_eq_left, Nat.right_eq_add, Nat.add_eq_right, Nat.reduceAdd, Nat.add_zero, Nat.succ_ne_self, Nat.one_ne_zero, Nat.zero_ne_one, eq_self, and_self, and_true, true_and, and_false, false_and, if_true, if_false, reduceIte, Int.reduceToNat, Int.toNat_natCast, hp, h3, hn1, hb1]); exact rfl) ?_
        refine w_iconst (v := 1) f25_319 (by decide) ?_
        refine w_iaddn f25_320 (by omega) ?_
        refine w_putI f25_321 (by assumption) ?_
        refine w_ret f25_324 rfl ?_
        by_cases z3 : bAt b n s = 59
        · first | (exfalso; omega) | (rw [if_pos z3]; exact ⟨_, (hF.put (by decide)).put (by decide), ⟨(hput_j (by decide)).trans ((hput_j (by decide)).trans h3), hput_s, (hput_j (by decide)).trans hput_s, fun z => absurd z (show ¬ (3 : Int) = 2 by decide)⟩, rfl⟩)
        · first | (exfalso; omega) | (rw [if_neg z3]; exact ⟨_, (hF.put (by decide)).put (by decide), ⟨(hput_j (by decide)).trans ((hput_j (by decide)).trans h3), hput_s, (hput_j (by decide)).trans hput_s, fun z => absurd z (show ¬ (4 : Int) = 2 by decide)⟩, rfl⟩)
      · refine w_iconst (v := 3) f25_306 (by decide) ?_
        refine w_goto (t := 311) f25_307 (by decide) ?_
        refine w_putI f25_311 (by assumption) ?_
        refine w_aloadn f25_314 rfl (by omega) ?_
        refine w_dup f25_315 rfl ?_
        refine w_getI f25_316 (by decide) (by assumption) (by (try simp only [hput, hcopy, Nat.reduceEqDiff, Nat.add_left_cancel_iff, Nat.add_right_cancel_iff, Nat.left_eq_add, Nat.add_eq_left, Nat.right_eq_add, Nat.add_eq_right, Nat.reduceAdd, Nat.add_zero, Nat.succ_ne_self, Nat.one_ne_zero, Nat.zero_ne_one, eq_self, and_self, and_true, true_and, and_false, false_and, if_true, if_false, reduceIte, Int.reduceToNat, Int.toNat_natCast, hp, h3, hn1, hb1]); exact rfl) ?_
        refine w_iconst (v := 1) f25_319 (by decide) ?_
        refine w_iaddn f25_320 (by omega) ?_
        refine w_putI f25_321 (by assumption) ?_
        refine w_ret f25_324 rfl ?_
        by_cases z3 : bAt b n s = 59
        · first | (exfalso; omega) | (rw [if_pos z3]; exact ⟨_, (hF.put (by decide)).put (by decide), ⟨(hput_j (by decide)).trans ((hput_j (by decide)).trans h3), hput_s, (hput_j (by decide)).trans hput_s, fun z => absurd z (show ¬ (3 : Int) = 2 by decide)⟩, rfl⟩)
        · first | (exfalso; omega) | (rw [if_neg z3]; exact ⟨_, (hF.put (by decide)).put (by decide), ⟨(hput_j (by decide)).trans ((hput_j (by decide)).trans h3), hput_s, (hput_j (by decide)).trans hput_s, fun z => absurd z (show ¬ (4 : Int) = 2 by decide)⟩, rfl⟩)
end A

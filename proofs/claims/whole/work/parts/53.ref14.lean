/-! the reference's copies, undo's rows -/
section A
variable {K : List AKd} {h : Nat → Nat → Int} {R : R4} {σ : Sg} {r d : Nat} {w : Nat → Int}
theorem hcopy_0 {a b sp dp : Nat} : hcopy h a sp b dp 0 = h := funext fun x => funext fun y => if_neg (by omega)
theorem hcopy_up {a b sp dp n : Nat} (hn : a ≠ b) : hput (hcopy h a sp b dp n) b (dp + n) (h a (sp + n)) = hcopy h a sp b dp (n + 1) := by
  refine funext fun x => funext fun y => ?_
  unfold hput hcopy
  by_cases e1 : x = b ∧ y = dp + n
  · rw [if_pos e1, if_pos (by omega), show sp + (y - dp) = sp + n by omega]
  · rw [if_neg e1]
    by_cases e2 : x = b ∧ dp ≤ y ∧ y < dp + n
    · rw [if_pos e2, if_pos (by omega)]
    · rw [if_neg e2, if_neg (by omega)]
theorem hcopy_s {a b sp dp n y : Nat} (hn : a ≠ b) : hcopy h a sp b dp n a y = h a y := if_neg (fun e => hn e.1)
theorem l151 {k1 k2 n1 n2 : Nat} {rs1 rs2 : List Nat} (hk1 : kdK (KS r d) k1 = some (20, n1, rs1)) (hk2 : kdK (KS r d) k2 = some (20, n2, rs2)) (hne : k1 ≠ k2) (q1 : 0 < k1) (q2 : 0 < k2) {a b : Int} (ha : 0 ≤ a ∧ a + 504 ≤ n1 ∧ a ≤ 5000) (hb : 0 ≤ b ∧ b + 504 ≤ n2 ∧ b ≤ 5000) : ∀ (n m : Nat), m + n = 504 →
    ev 151 3 [AR k1, AI a, AR k2, AI b, AI (m : Int)] [] (KS r d, hcopy h k1 a.toNat k2 b.toNat m, R) = some (.inl AU, (KS r d, hcopy h k1 a.toNat k2 b.toNat 504, R)) := by
  intro n
  induction n with
  | zero =>
    intro m hm
    refine Rn.eq ?_
    refine w_iload f151_3 rfl ?_
    refine w_sipush (v := 504) f151_5 (by decide) ?_
    refine w_ic_ge (t := 29) f151_8 (by decide) (fun c1 => ?_) (fun c1 => by omega)
    refine w_ret f151_29 rfl ?_
    rw [show m = 504 by omega]
  | succ n ih =>
    intro m hm
    refine Rn.eq ?_
    have e1 : hcopy h k1 a.toNat k2 b.toNat m k1 (a + m).toNat = h k1 (a.toNat + m) := by
      rw [hcopy_s hne]
      congr 1
      omega
    refine w_iload f151_3 rfl ?_
    refine w_sipush (v := 504) f151_5 (by decide) ?_
    refine w_ic_ge (t := 29) f151_8 (by decide) (fun c1 => by omega) (fun c1 => ?_)
    refine w_aloadn f151_11 rfl (by omega) ?_
    refine w_iloadn f151_12 rfl ?_
    refine w_iload f151_13 rfl ?_
    refine w_iaddn f151_15 (by omega) ?_
    refine w_aloadn f151_16 rfl (by omega) ?_
    refine w_iloadn f151_17 rfl ?_
    refine w_iload f151_18 rfl ?_
    refine w_iaddn f151_20 (by omega) ?_
    refine w_iald f151_21 (by assumption) (by omega) (by exact e1) ?_
    refine w_iast f151_22 (by assumption) (by omega) ?_
    refine w_iincn f151_23 rfl (by omega) (sto_5_4 rfl) ?_
    refine w_goto (t := 3) f151_26 (by decide) ?_
    rw [show (b + (m : Int)).toNat = b.toNat + m by omega, hcopy_up hne]
    exact Rn.to (ih (m + 1) (by omega)) rfl
theorem s151 {k1 k2 n1 n2 : Nat} {rs1 rs2 : List Nat} (hk1 : kdK (KS r d) k1 = some (20, n1, rs1)) (hk2 : kdK (KS r d) k2 = some (20, n2, rs2)) (hne : k1 ≠ k2) (q1 : 0 < k1) (q2 : 0 < k2) {a b : Int} (ha : 0 ≤ a ∧ a + 504 ≤ n1 ∧ a ≤ 5000) (hb : 0 ≤ b ∧ b + 504 ≤ n2 ∧ b ≤ 5000) :
    ev 151 0 [AR k1, AI a, AR k2, AI b, AU] [] (KS r d, h, R) = some (.inl AU, (KS r d, hcopy h k1 a.toNat k2 b.toNat 504, R)) := by
  refine Rn.eq ?_
  refine w_iconst (v := 0) f151_0 (by decide) ?_
  refine w_istore f151_1 (Nat.le_of_ble_eq_true rfl) (sto_5_4 rfl) ?_
  have g := l151 (h := h) (R := R) hk1 hk2 hne q1 q2 ha hb 504 0 (by omega)
  rw [hcopy_0] at g
  exact Rn.to g rfl
/-- what was remembered is as it was, with the row w behind it -/
def Rem (h : Nat → Nat → Int) (w : Nat → Int) (h1 : Nat → Nat → Int) : Prop :=
  (h1 268 4 = if h 268 4 = 8 then 8 else h 268 4 + 1) ∧ (∀ i j : Nat, (i : Int) + 1 < h1 268 4 → j < 504 → h1 272 (504 * i + j) = h 272 (504 * (if h 268 4 = 8 then i + 1 else i) + j))
  ∧ (∀ i j : Nat, (i : Int) + 1 = h1 268 4 → j < 504 → h1 272 (504 * i + j) = w j) ∧ ∀ x y, x ≠ 272 → ¬ (x = 268 ∧ y = 4) → h1 x y = h x y
def sfH (h : Nat → Nat → Int) (k : Int) : Nat → Nat → Int := fun x y => if x = 272 ∧ (y : Int) < k then h 272 (y + 504) else h x y
theorem l186 {Q : Out → Prop} : ∀ (n : Nat) (k : Int), 0 ≤ k → k + n = 3528 → Rn (ev 186 40 [AR 268, AI 3528] [] (KS r d, sfH h 3528, R)) Q → Rn (ev 186 11 [AR 268, AI k] [] (KS r d, sfH h k, R)) Q := by
  intro n
  have k0 := @kd_268 r d
  have k2 := @kd_272 r d
  induction n with
  | zero =>
    intro k h1 h2 g
    have e : k = 3528 := by omega
    subst e
    refine w_iloadn f186_11 rfl ?_
    refine w_sipush (v := 3528) f186_12 (by decide) ?_
    refine w_ic_ge (t := 40) f186_15 (by decide) (fun c1 => ?_) (fun c1 => by omega)
    exact g
  | succ n ih =>
    intro k h1 h2 g
    have e1 : sfH h k 272 (k + 504).toNat = h 272 (k.toNat + 504) := by
      unfold sfH
      rw [if_neg (by omega)]
      congr 1
      omega
    have e : hput (sfH h k) 272 k.toNat (h 272 (k.toNat + 504)) = sfH h (k + 1) := by
      refine funext fun x => funext fun y => ?_
      unfold hput sfH
      by_cases e1 : x = 272
      · subst e1
        by_cases e2 : (y : Int) < k
        · rw [if_neg (by omega), if_pos ⟨rfl, e2⟩, if_pos ⟨rfl, by omega⟩]
        · by_cases e3 : y = k.toNat
          · rw [if_pos ⟨rfl, e3⟩, if_pos ⟨rfl, by omega⟩, e3]
          · rw [if_neg (by omega), if_neg (by omega), if_neg (by omega)]
      · rw [if_neg (by omega), if_neg (by omega), if_neg (by omega)]
    refine w_iloadn f186_11 rfl ?_
    refine w_sipush (v := 3528) f186_12 (by decide) ?_
    refine w_ic_ge (t := 40) f186_15 (by decide) (fun c1 => by omega) (fun c1 => ?_)
    refine w_aloadn f186_18 rfl (by omega) ?_
    refine w_getR f186_19 (by assumption) rfl (by omega) ?_
    refine w_iloadn f186_22 rfl ?_
    refine w_aloadn f186_23 rfl (by omega) ?_
    refine w_getR f186_24 (by assumption) rfl (by omega) ?_
    refine w_iloadn f186_27 rfl ?_
    refine w_sipush (v := 504) f186_28 (by decide) ?_
    refine w_iaddn f186_31 (by omega) ?_
    refine w_iald f186_32 (by assumption) (by omega) (by exact e1) ?_
    refine w_iast f186_33 (by assumption) (by omega) ?_
    refine w_iincn f186_34 rfl (by omega) (sto_2_1 rfl) ?_
    refine w_goto (t := 11) f186_37 (by decide) ?_
    rw [e]
    exact ih _ (by omega) (by omega) g
/-- the end of it: the row goes to the place p -/
theorem l186b {p x : Int} {v : AV} (hp : 0 ≤ p ∧ p ≤ 7) (h4 : h 268 4 = p) : Rn (ev 186 50 [AR 268, v] [] (KS r d, h, R)) (fun q => q = (.inl AU, (KS r d, hput (hcopy h 269 0 272 (504 * p).toNat 504) 268 4 (p + 1), R))) := by
  have k0 := @kd_268 r d
  have k1 := @kd_269 r d
  have k2 := @kd_272 r d
  have e4 : hcopy h 269 0 272 (504 * p).toNat 504 268 4 = p := by unfold hcopy; rw [if_neg (by omega)]; exact h4
  refine w_aloadn f186_50 rfl (by omega) ?_
  refine w_getR f186_51 (by assumption) rfl (by omega) ?_
  refine w_iconst (v := 0) f186_54 (by decide) ?_
  refine w_aloadn f186_55 rfl (by omega) ?_
  refine w_getR f186_56 (by assumption) rfl (by omega) ?_
  refine w_sipush (v := 504) f186_59 (by decide) ?_
  refine w_aloadn f186_62 rfl (by omega) ?_
  refine w_getI f186_63 (by decide) (by assumption) (by (try simp only [hput, hcopy, Nat.reduceEqDiff, Nat.add_left_cancel_iff, Nat.add_right_cancel_iff, Nat.left_eq_add, Nat.add_eq_left, Nat.right_eq_add, Nat.add_eq_right, Nat.reduceAdd, Nat.add_zero, Nat.succ_ne_self, Nat.one_ne_zero, Nat.zero_ne_one, eq_self, and_self, and_true, true_and, and_false, false_and, if_true, if_false, reduceIte, Int.reduceToNat, Int.toNat_natCast, h4]); exact rfl) ?_
  refine w_imuln f186_66 (by omega) ?_
  refine w_cS f186_67 (Or.inl rfl) (Nat.le_of_ble_eq_true rfl) rfl rfl ⟨Nat.le_of_ble_eq_true rfl, rfl, Nat.le_of_ble_eq_true rfl⟩ (en151 _ _ _ _) (s151 k1 k2 (by decide) (by decide) (by decide) (by decide) (by omega)) (pv151 _ _) ?_
  refine w_aloadn f186_70 rfl (by omega) ?_
  refine w_dup f186_71 rfl ?_
  refine w_getI f186_72 (by decide) (by assumption) (by exact e4) ?_
  refine w_iconst (v := 1) f186_75 (by decide) ?_
  refine w_iaddn f186_76 (by omega) ?_
  refine w_putI f186_77 (by assumption) ?_
  refine w_ret f186_80 rfl ?_
  rfl
theorem l186c {v : AV} {Q : Out → Prop} (h4 : h 268 4 = 8) (g : Rn (ev 186 50 [AR 268, v] [] (KS r d, hput h 268 4 7, R)) Q) : Rn (ev 186 40 [AR 268, v] [] (KS r d, h, R)) Q := by
  have k0 := @kd_268 r d
  refine w_aloadn f186_40 rfl (by omega) ?_
  refine w_dup f186_41 rfl ?_
  refine w_getI f186_42 (by decide) (by assumption) (by (try simp only [hput, hcopy, Nat.reduceEqDiff, Nat.add_left_cancel_iff, Nat.add_right_cancel_iff, Nat.left_eq_add, Nat.add_eq_left, Nat.right_eq_add, Nat.add_eq_right, Nat.reduceAdd, Nat.add_zero, Nat.succ_ne_self, Nat.one_ne_zero, Nat.zero_ne_one, eq_self, and_self, and_true, true_and, and_false, false_and, if_true, if_false, reduceIte, Int.reduceToNat, Int.toNat_natCast, h4]); exact rfl) ?_
  refine w_iconst (v := 1) f186_45 (by decide) ?_
  refine w_isubn f186_46 (by omega) ?_
  refine w_putI f186_47 (by assumption) ?_
  exact g
theorem s186 (hw : h 269 = w) (h4 : 0 ≤ h 268 4 ∧ h 268 4 ≤ 8) : Rn (ev 186 0 [AR 268, AU] [] (KS r d, h, R)) (fun q => ∃ h1, Rem h w h1 ∧ q = (.inl AU, (KS r d, h1, R))) := by
  have k0 := @kd_268 r d
  have e0 : h = sfH h 0 := by
    refine funext fun x => funext fun y => ?_
    unfold sfH
    rw [if_neg (by omega)]
  refine w_aloadn f186_0 rfl (by omega) ?_
  refine w_getI f186_1 (by decide) (by assumption) (by (try simp only [hput, hcopy, Nat.reduceEqDiff, Nat.add_left_cancel_iff, Nat.add_right_cancel_iff, Nat.left_eq_add, Nat.add_eq_left, Nat.right_eq_add, Nat.add_eq_right, Nat.reduceAdd, Nat.add_zero, Nat.succ_ne_self, Nat.one_ne_zero, Nat.zero_ne_one, eq_self, and_self, and_true, true_and, and_false, false_and, if_true, if_false, reduceIte, Int.reduceToNat, Int.toNat_natCast]); exact rfl) ?_
  refine w_bipush (v := 8) f186_4 (by decide) ?_
  refine w_ic_ne (t := 50) f186_6 (by decide) (fun c1 => ?_) (fun c1 => ?_)
  · refine (l186b (p := h 268 4) (x := 0) (by omega) rfl).mono ?_
    rintro o rfl
    refine ⟨_, ?_, rfl⟩
    subst hw
    have e4 : hput (hcopy h 269 0 272 (504 * h 268 4).toNat 504) 268 4 (h 268 4 + 1) 268 4 = h 268 4 + 1 := hput_s
    refine ⟨by rw [e4, if_neg c1], fun i j hi hj => ?_, fun i j hi hj => ?_, fun x y n1 n2 => ?_⟩
    · rw [e4] at hi
      rw [hput_k (by decide), if_neg c1]
      exact if_neg (by omega)
    · rw [e4] at hi
      rw [hput_k (by decide)]
      refine (if_pos ⟨rfl, by omega, by omega⟩).trans ?_
      congr 1
      omega
    · rw [show hput (hcopy h 269 0 272 (504 * h 268 4).toNat 504) 268 4 (h 268 4 + 1) x y = hcopy h 269 0 272 (504 * h 268 4).toNat 504 x y from if_neg n2]
      exact if_neg (fun z => n1 z.1)
  · refine w_iconst (v := 0) f186_9 (by decide) ?_
    refine w_istoren f186_10 (Nat.le_of_ble_eq_true rfl) (sto_2_1 rfl) ?_
    have e8 : sfH h 3528 268 4 = 8 := (if_neg (by decide)).trans c1
    rw [e0]
    refine l186 3528 0 (by omega) (by omega) (l186c e8 ?_)
    rw [← e0]
    refine (l186b (p := 7) (x := 0) (by decide) hput_s).mono ?_
    rintro o rfl
    refine ⟨_, ?_, rfl⟩
    subst hw
    have e4 : hput (hcopy (hput (sfH h 3528) 268 4 7) 269 0 272 (504 * (7 : Int)).toNat 504) 268 4 (7 + 1) 268 4 = 8 := hput_s
    refine ⟨by rw [e4, if_pos c1], fun i j hi hj => ?_, fun i j hi hj => ?_, fun x y n1 n2 => ?_⟩
    · rw [e4] at hi
      rw [hput_k (by decide), if_pos c1]
      refine (if_neg (by omega)).trans ?_
      rw [hput_k (by decide)]
      refine (if_pos ⟨rfl, by omega⟩).trans ?_
      congr 1
      omega
    · rw [e4] at hi
      rw [hput_k (by decide)]
      refine (if_pos ⟨rfl, by omega, by omega⟩).trans ?_
      rw [hput_k (by decide)]
      refine (if_neg (by omega)).trans ?_
      exact congrArg (h 269) (show 0 + (504 * i + j - (504 * (7 : Int)).toNat) = j by omega)
    · rw [show hput (hcopy (hput (sfH h 3528) 268 4 7) 269 0 272 (504 * (7 : Int)).toNat 504) 268 4 (7 + 1) x y = hcopy (hput (sfH h 3528) 268 4 7) 269 0 272 (504 * (7 : Int)).toNat 504 x y from if_neg n2]
      refine (if_neg (fun z => n1 z.1)).trans ?_
      rw [show hput (sfH h 3528) 268 4 7 x y = sfH h 3528 x y from if_neg n2]
      exact if_neg (fun z => n1 z.1)
end A

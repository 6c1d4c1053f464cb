/-! the reference's changes: rows of w -/
section A
variable {K : List AKd} {h : Nat → Nat → Int} {R : R4} {σ : Sg} {r d : Nat} {w : Nat → Int}
/-- w's row has become f; all else but scratch is as it was -/
def Ch (h : Nat → Nat → Int) (f : Nat → Int) (h1 : Nat → Nat → Int) : Prop := h1 269 = f ∧ ∀ x y, ¬ scr x y → x ≠ 269 → h1 x y = h x y
theorem Ch.rf (hw : h 269 = w) : Ch h w h := ⟨hw, fun _ _ _ _ => rfl⟩
theorem Ch.S {h1 : Nat → Nat → Int} (hw : h 269 = w) (q : Scr h h1) : Ch h w h1 := ⟨q.hw hw, fun x y z _ => q x y z⟩
theorem Ch.tr {f g : Nat → Int} {h1 h2 : Nat → Nat → Int} (a : Ch h f h1) (b : Ch h1 g h2) : Ch h g h2 := ⟨b.1, fun x y z n => (b.2 x y z n).trans (a.2 x y z n)⟩
theorem Ch.put {f : Nat → Int} {h1 : Nat → Nat → Int} {j : Nat} {v : Int} (a : Ch h f h1) : Ch h (udI f j v) (hput h1 269 j v) := ⟨by
  rw [← a.1]
  exact funext fun y => (by
    unfold hput udI
    by_cases e : y = j
    · rw [if_pos ⟨rfl, e⟩, if_pos e]
    · rw [if_neg (fun z => e z.2), if_neg e]), fun x y z n => (hput_k n).trans (a.2 x y z n)⟩
theorem Ch.ex {f g : Nat → Int} {h1 : Nat → Nat → Int} (a : Ch h f h1) (e : f = g) : Ch h g h1 := e ▸ a
def keepW (w : Nat → Int) (s v o c : Int) : Nat → Int := udI (udI (udI (udI (udI w (309 + 4 * w 4 + 0).toNat s) (309 + 4 * w 4 + 1).toNat v) (309 + 4 * w 4 + 2).toNat o) (309 + 4 * w 4 + 3).toNat c) 4 (w 4 + 1)
theorem s159 {s v o c : Int} (hw : h 269 = w) (h4 : 0 ≤ w 4 ∧ w 4 ≤ 11) : Rn (ev 159 0 [AR 268, AI s, AI v, AI o, AI c, AU] [] (KS r d, h, R)) (fun q => ∃ h1, Ch h (keepW w s v o c) h1 ∧ q = (.inl (AI (w 4)), (KS r d, h1, R))) := by
  have k0 := @kd_268 r d
  have k1 := @kd_269 r d
  have e4 : h 269 4 = w 4 := congrFun hw 4
  refine w_sipush (v := 309) f159_0 (by decide) ?_
  refine w_iconst (v := 4) f159_3 (by decide) ?_
  refine w_aloadn f159_4 rfl (by omega) ?_
  refine w_getR f159_5 (by assumption) rfl (by omega) ?_
  refine w_iconst (v := 4) f159_8 (by decide) ?_
  refine w_iald f159_9 (by assumption) (by omega) (by exact e4) ?_
  refine w_imuln f159_10 (by omega) ?_
  refine w_iaddn f159_11 (by omega) ?_
  refine w_istore f159_12 (Nat.le_of_ble_eq_true rfl) (sto_6_5 rfl) ?_
  refine w_aloadn f159_14 rfl (by omega) ?_
  refine w_getR f159_15 (by assumption) rfl (by omega) ?_
  refine w_iload f159_18 rfl ?_
  refine w_iconst (v := 0) f159_20 (by decide) ?_
  refine w_iaddn f159_21 (by omega) ?_
  refine w_iloadn f159_22 rfl ?_
  refine w_iast f159_23 (by assumption) (by omega) ?_
  refine w_aloadn f159_24 rfl (by omega) ?_
  refine w_getR f159_25 (by assumption) rfl (by omega) ?_
  refine w_iload f159_28 rfl ?_
  refine w_iconst (v := 1) f159_30 (by decide) ?_
  refine w_iaddn f159_31 (by omega) ?_
  refine w_iloadn f159_32 rfl ?_
  refine w_iast f159_33 (by assumption) (by omega) ?_
  refine w_aloadn f159_34 rfl (by omega) ?_
  refine w_getR f159_35 (by assumption) rfl (by omega) ?_
  refine w_iload f159_38 rfl ?_
  refine w_iconst (v := 2) f159_40 (by decide) ?_
  refine w_iaddn f159_41 (by omega) ?_
  refine w_iloadn f159_42 rfl ?_
  refine w_iast f159_43 (by assumption) (by omega) ?_
  refine w_aloadn f159_44 rfl (by omega) ?_
  refine w_getR f159_45 (by assumption) rfl (by omega) ?_
  refine w_iload f159_48 rfl ?_
  refine w_iconst (v := 3) f159_50 (by decide) ?_
  refine w_iaddn f159_51 (by omega) ?_
  refine w_iload f159_52 rfl ?_
  refine w_iast f159_54 (by assumption) (by omega) ?_
  refine w_aloadn f159_55 rfl (by omega) ?_
  refine w_getR f159_56 (by assumption) rfl (by omega) ?_
  refine w_iconst (v := 4) f159_59 (by decide) ?_
  refine w_dup2 f159_60 rfl ?_
  refine w_iald f159_61 (by assumption) (by omega) (by exact (hput_j (by show (4 : Nat) ≠ _; omega)).trans ((hput_j (by show (4 : Nat) ≠ _; omega)).trans ((hput_j (by show (4 : Nat) ≠ _; omega)).trans ((hput_j (by show (4 : Nat) ≠ _; omega)).trans e4)))) ?_
  refine w_iconst (v := 1) f159_62 (by decide) ?_
  refine w_iaddn f159_63 (by omega) ?_
  refine w_iast f159_64 (by assumption) (by omega) ?_
  refine w_aloadn f159_65 rfl (by omega) ?_
  refine w_getR f159_66 (by assumption) rfl (by omega) ?_
  refine w_iconst (v := 4) f159_69 (by decide) ?_
  refine w_iald f159_70 (by assumption) (by omega) (by exact hput_s) ?_
  refine w_iconst (v := 1) f159_71 (by decide) ?_
  refine w_isubn f159_72 (by omega) ?_
  refine w_iret f159_73 rfl ?_
  exact ⟨_, (Ch.rf hw).put.put.put.put.put, by rw [show w 4 + 1 - 1 = w 4 by omega]; rfl⟩
def g2sW (w : Nat → Int) : Nat → Int := udI (udI (udI (udI (udI w 5 0) 6 (w 9)) 7 (w 10)) 8 (w 11)) 18 0
theorem s160 (hw : h 269 = w) : Rn (ev 160 0 [AR 268, AU] [] (KS r d, h, R)) (fun q => ∃ h1, Ch h (g2sW w) h1 ∧ q = (.inl AU, (KS r d, h1, R))) := by
  have k0 := @kd_268 r d
  have k1 := @kd_269 r d
  refine w_aloadn f160_0 rfl (by omega) ?_
  refine w_getR f160_1 (by assumption) rfl (by omega) ?_
  refine w_iconst (v := 5) f160_4 (by decide) ?_
  refine w_iconst (v := 0) f160_5 (by decide) ?_
  refine w_iast f160_6 (by assumption) (by omega) ?_
  refine w_iconst (v := 0) f160_7 (by decide) ?_
  refine w_istoren f160_8 (Nat.le_of_ble_eq_true rfl) (sto_2_1 rfl) ?_
  refine w_iloadn f160_9 rfl ?_
  refine w_iconst (v := 3) f160_10 (by decide) ?_
  refine w_ic_ge (t := 38) f160_11 (by decide) (fun e9 => absurd e9 (by decide)) (fun _ => ?_)
  refine w_aloadn f160_14 rfl (by omega) ?_
  refine w_getR f160_15 (by assumption) rfl (by omega) ?_
  refine w_bipush (v := 6) f160_18 (by decide) ?_
  refine w_iloadn f160_20 rfl ?_
  refine w_iaddc (v := 6) f160_21 (by decide) ?_
  refine w_aloadn f160_22 rfl (by omega) ?_
  refine w_getR f160_23 (by assumption) rfl (by omega) ?_
  refine w_bipush (v := 9) f160_26 (by decide) ?_
  refine w_iloadn f160_28 rfl ?_
  refine w_iaddc (v := 9) f160_29 (by decide) ?_
  refine w_iald f160_30 (by assumption) (by omega) (by (try simp only [hput, hcopy, Nat.reduceEqDiff, Nat.add_left_cancel_iff, Nat.add_right_cancel_iff, Nat.left_eq_add, Nat.add_eq_left, Nat.right_eq_add, Nat.add_eq_right, Nat.reduceAdd, Nat.add_zero, Nat.succ_ne_self, Nat.one_ne_zero, Nat.zero_ne_one, eq_self, and_self, and_true, true_and, and_false, false_and, if_true, if_false, reduceIte, Int.reduceToNat, Int.toNat_natCast, hw]); exact rfl) ?_
  refine w_iast f160_31 (by assumption) (by omega) ?_
  refine w_iincc (v := 1) f160_32 rfl (by decide) (sto_2_1 rfl) ?_
  refine w_goto (t := 9) f160_35 (by decide) ?_
  refine w_iloadn f160_9 rfl ?_
  refine w_iconst (v := 3) f160_10 (by decide) ?_
  refine w_ic_ge (t := 38) f160_11 (by decide) (fun e9 => absurd e9 (by decide)) (fun _ => ?_)
  refine w_aloadn f160_14 rfl (by omega) ?_
  refine w_getR f160_15 (by assumption) rfl (by omega) ?_
  refine w_bipush (v := 6) f160_18 (by decide) ?_
  refine w_iloadn f160_20 rfl ?_
  refine w_iaddc (v := 7) f160_21 (by decide) ?_
  refine w_aloadn f160_22 rfl (by omega) ?_
  refine w_getR f160_23 (by assumption) rfl (by omega) ?_
  refine w_bipush (v := 9) f160_26 (by decide) ?_
  refine w_iloadn f160_28 rfl ?_
  refine w_iaddc (v := 10) f160_29 (by decide) ?_
  refine w_iald f160_30 (by assumption) (by omega) (by (try simp only [hput, hcopy, Nat.reduceEqDiff, Nat.add_left_cancel_iff, Nat.add_right_cancel_iff, Nat.left_eq_add, Nat.add_eq_left, Nat.right_eq_add, Nat.add_eq_right, Nat.reduceAdd, Nat.add_zero, Nat.succ_ne_self, Nat.one_ne_zero, Nat.zero_ne_one, eq_self, and_self, and_true, true_and, and_false, false_and, if_true, if_false, reduceIte, Int.reduceToNat, Int.toNat_natCast, hw]); exact rfl) ?_
  refine w_iast f160_31 (by assumption) (by omega) ?_
  refine w_iincc (v := 2) f160_32 rfl (by decide) (sto_2_1 rfl) ?_
  refine w_goto (t := 9) f160_35 (by decide) ?_
  refine w_iloadn f160_9 rfl ?_
  refine w_iconst (v := 3) f160_10 (by decide) ?_
  refine w_ic_ge (t := 38) f160_11 (by decide) (fun e9 => absurd e9 (by decide)) (fun _ => ?_)
  refine w_aloadn f160_14 rfl (by omega) ?_
  refine w_getR f160_15 (by assumption) rfl (by omega) ?_
  refine w_bipush (v := 6) f160_18 (by decide) ?_
  refine w_iloadn f160_20 rfl ?_
  refine w_iaddc (v := 8) f160_21 (by decide) ?_
  refine w_aloadn f160_22 rfl (by omega) ?_
  refine w_getR f160_23 (by assumption) rfl (by omega) ?_
  refine w_bipush (v := 9) f160_26 (by decide) ?_
  refine w_iloadn f160_28 rfl ?_
  refine w_iaddc (v := 11) f160_29 (by decide) ?_
  refine w_iald f160_30 (by assumption) (by omega) (by (try simp only [hput, hcopy, Nat.reduceEqDiff, Nat.add_left_cancel_iff, Nat.add_right_cancel_iff, Nat.left_eq_add, Nat.add_eq_left, Nat.right_eq_add, Nat.add_eq_right, Nat.reduceAdd, Nat.add_zero, Nat.succ_ne_self, Nat.one_ne_zero, Nat.zero_ne_one, eq_self, and_self, and_true, true_and, and_false, false_and, if_true, if_false, reduceIte, Int.reduceToNat, Int.toNat_natCast, hw]); exact rfl) ?_
  refine w_iast f160_31 (by assumption) (by omega) ?_
  refine w_iincc (v := 3) f160_32 rfl (by decide) (sto_2_1 rfl) ?_
  refine w_goto (t := 9) f160_35 (by decide) ?_
  refine w_iloadn f160_9 rfl ?_
  refine w_iconst (v := 3) f160_10 (by decide) ?_
  refine w_ic_ge (t := 38) f160_11 (by decide) (fun _ => ?_) (fun e9 => absurd e9 (by decide))
  refine w_aloadn f160_38 rfl (by omega) ?_
  refine w_getR f160_39 (by assumption) rfl (by omega) ?_
  refine w_bipush (v := 18) f160_42 (by decide) ?_
  refine w_iconst (v := 0) f160_44 (by decide) ?_
  refine w_iast f160_45 (by assumption) (by omega) ?_
  refine w_ret f160_46 rfl ?_
  exact ⟨_, (Ch.rf hw).put.put.put.put.put, rfl⟩
theorem s161 (hw : h 269 = w) : Rn (ev 161 0 [AR 268] [] (KS r d, h, R)) (fun q => ∃ h1, Ch h (udI (g2sW w) 59 1) h1 ∧ q = (.inl AU, (KS r d, h1, R))) := by
  have k0 := @kd_268 r d
  have k1 := @kd_269 r d
  refine w_aloadn f161_0 rfl (by omega) ?_
  refine w_qV f161_1 (Or.inl rfl) rfl (by omega) (okd_of (by assumption)) rfl ⟨Nat.le_of_ble_eq_true rfl, rfl, Nat.le_of_ble_eq_true rfl⟩ (en160 _) (s160 hw) (fun o9 ho9 => ?_)
  obtain ⟨h1, q1, rfl⟩ := ho9
  refine w_bok (pv160 _ _) ?_
  refine w_aloadn f161_4 rfl (by omega) ?_
  refine w_getR f161_5 (by assumption) rfl (by omega) ?_
  refine w_bipush (v := 59) f161_8 (by decide) ?_
  refine w_iconst (v := 1) f161_10 (by decide) ?_
  refine w_iast f161_11 (by assumption) (by omega) ?_
  refine w_ret f161_12 rfl ?_
  exact ⟨_, q1.put, rfl⟩
theorem s184 (hw : h 269 = w) : Rn (ev 184 0 [AR 268, AU] [] (KS r d, h, R)) (fun q => ∃ h1, Ch h (g2sW w) h1 ∧ q = (.inl (AI (w 5)), (KS r d, h1, R))) := by
  have k0 := @kd_268 r d
  have k1 := @kd_269 r d
  refine w_aloadn f184_0 rfl (by omega) ?_
  refine w_getR f184_1 (by assumption) rfl (by omega) ?_
  refine w_iconst (v := 5) f184_4 (by decide) ?_
  refine w_iald f184_5 (by assumption) (by omega) (by (try simp only [hput, hcopy, Nat.reduceEqDiff, Nat.add_left_cancel_iff, Nat.add_right_cancel_iff, Nat.left_eq_add, Nat.add_eq_left, Nat.right_eq_add, Nat.add_eq_right, Nat.reduceAdd, Nat.add_zero, Nat.succ_ne_self, Nat.one_ne_zero, Nat.zero_ne_one, eq_self, and_self, and_true, true_and, and_false, false_and, if_true, if_false, reduceIte, Int.reduceToNat, Int.toNat_natCast, hw]); exact rfl) ?_
  refine w_istoren f184_6 (Nat.le_of_ble_eq_true rfl) (sto_2_1 rfl) ?_
  refine w_aloadn f184_7 rfl (by omega) ?_
  refine w_qV f184_8 (Or.inl rfl) rfl (by omega) (okd_of (by assumption)) rfl ⟨Nat.le_of_ble_eq_true rfl, rfl, Nat.le_of_ble_eq_true rfl⟩ (en160 _) (s160 hw) (fun o9 ho9 => ?_)
  obtain ⟨h1, q1, rfl⟩ := ho9
  refine w_bok (pv160 _ _) ?_
  refine w_iloadn f184_11 rfl ?_
  refine w_iret f184_12 rfl ?_
  exact ⟨_, q1, rfl⟩
theorem s183 {i v : Int} (hw : h 269 = w) (hi : 0 ≤ i ∧ i ≤ 2) : Rn (ev 183 0 [AR 268, AI i, AI v, AU] [] (KS r d, h, R)) (fun q => ∃ h1, Ch h (udI w (6 + i).toNat v) h1 ∧ q = (.inl (AI (w (6 + i).toNat)), (KS r d, h1, R))) := by
  have k0 := @kd_268 r d
  have k1 := @kd_269 r d
  refine w_aloadn f183_0 rfl (by omega) ?_
  refine w_getR f183_1 (by assumption) rfl (by omega) ?_
  refine w_bipush (v := 6) f183_4 (by decide) ?_
  refine w_iloadn f183_6 rfl ?_
  refine w_iaddn f183_7 (by omega) ?_
  refine w_iald f183_8 (by assumption) (by omega) (by (try simp only [hput, hcopy, Nat.reduceEqDiff, Nat.add_left_cancel_iff, Nat.add_right_cancel_iff, Nat.left_eq_add, Nat.add_eq_left, Nat.right_eq_add, Nat.add_eq_right, Nat.reduceAdd, Nat.add_zero, Nat.succ_ne_self, Nat.one_ne_zero, Nat.zero_ne_one, eq_self, and_self, and_true, true_and, and_false, false_and, if_true, if_false, reduceIte, Int.reduceToNat, Int.toNat_natCast, hw]); exact rfl) ?_
  refine w_istoren f183_9 (Nat.le_of_ble_eq_true rfl) (sto_4_3 rfl) ?_
  refine w_aloadn f183_10 rfl (by omega) ?_
  refine w_getR f183_11 (by assumption) rfl (by omega) ?_
  refine w_bipush (v := 6) f183_14 (by decide) ?_
  refine w_iloadn f183_16 rfl ?_
  refine w_iaddn f183_17 (by omega) ?_
  refine w_iloadn f183_18 rfl ?_
  refine w_iast f183_19 (by assumption) (by omega) ?_
  refine w_iloadn f183_20 rfl ?_
  refine w_iret f183_21 rfl ?_
  exact ⟨_, (Ch.rf hw).put, rfl⟩
/-- zeros from a on -/
def zr (w : Nat → Int) (a n : Nat) : Nat → Int := fun y => if a ≤ y ∧ y < a + n then 0 else w y
theorem zr_up {a n j : Nat} (e : j = a + n) : udI (zr w a n) j 0 = zr w a (n + 1) := by
  subst e
  refine funext fun y => ?_
  unfold udI zr
  by_cases e1 : y = a + n
  · rw [if_pos e1, if_pos (by omega)]
  · rw [if_neg e1]
    by_cases e2 : a ≤ y ∧ y < a + n
    · rw [if_pos e2, if_pos (by omega)]
    · rw [if_neg e2, if_neg (by omega)]
theorem zr_0 {a : Nat} : zr w a 0 = w := funext fun y => if_neg (by omega)
theorem l185a {h0 : Nat → Nat → Int} {Q : Out → Prop} {x : Int} : ∀ (n : Nat) (k : Int) (h : Nat → Nat → Int), 12 ≤ k → k + n = 18 → Ch h0 (zr w 12 (k.toNat - 12)) h → (∀ h1, Ch h0 (zr w 12 6) h1 → Rn (ev 185 30 [AR 268, AI x, AI 18] [] (KS r d, h1, R)) Q) → Rn (ev 185 11 [AR 268, AI x, AI k] [] (KS r d, h, R)) Q := by
  intro n
  have k0 := @kd_268 r d
  have k1 := @kd_269 r d
  induction n with
  | zero =>
    intro k h h1 h2 hC g
    have e : k = 18 := by omega
    subst e
    refine w_iloadn f185_11 rfl ?_
    refine w_bipush (v := 17) f185_12 (by decide) ?_
    refine w_ic_gt (t := 30) f185_14 (by decide) (fun c1 => ?_) (fun c1 => by omega)
    exact g _ hC
  | succ n ih =>
    intro k h h1 h2 hC g
    refine w_iloadn f185_11 rfl ?_
    refine w_bipush (v := 17) f185_12 (by decide) ?_
    refine w_ic_gt (t := 30) f185_14 (by decide) (fun c1 => by omega) (fun c1 => ?_)
    refine w_aloadn f185_17 rfl (by omega) ?_
    refine w_getR f185_18 (by assumption) rfl (by omega) ?_
    refine w_iloadn f185_21 rfl ?_
    refine w_iconst (v := 0) f185_22 (by decide) ?_
    refine w_iast f185_23 (by assumption) (by omega) ?_
    refine w_iincn f185_24 rfl (by omega) (sto_3_2 rfl) ?_
    refine w_goto (t := 11) f185_27 (by decide) ?_
    exact ih _ _ (by omega) (by omega) (hC.put.ex ((zr_up (by omega)).trans (by rw [show (k + 1).toNat - 12 = k.toNat - 12 + 1 by omega]))) g
theorem l185b {h0 : Nat → Nat → Int} {Q : Out → Prop} {x : Int} {u : Nat → Int} : ∀ (n : Nat) (k : Int) (h : Nat → Nat → Int), 59 ≤ k → k + n = 93 → Ch h0 (zr u 59 (k.toNat - 59)) h → (∀ h1, Ch h0 (zr u 59 34) h1 → Rn (ev 185 52 [AR 268, AI x, AI 93] [] (KS r d, h1, R)) Q) → Rn (ev 185 33 [AR 268, AI x, AI k] [] (KS r d, h, R)) Q := by
  intro n
  have k0 := @kd_268 r d
  have k1 := @kd_269 r d
  induction n with
  | zero =>
    intro k h h1 h2 hC g
    have e : k = 93 := by omega
    subst e
    refine w_iloadn f185_33 rfl ?_
    refine w_bipush (v := 93) f185_34 (by decide) ?_
    refine w_ic_ge (t := 52) f185_36 (by decide) (fun c1 => ?_) (fun c1 => by omega)
    exact g _ hC
  | succ n ih =>
    intro k h h1 h2 hC g
    refine w_iloadn f185_33 rfl ?_
    refine w_bipush (v := 93) f185_34 (by decide) ?_
    refine w_ic_ge (t := 52) f185_36 (by decide) (fun c1 => by omega) (fun c1 => ?_)
    refine w_aloadn f185_39 rfl (by omega) ?_
    refine w_getR f185_40 (by assumption) rfl (by omega) ?_
    refine w_iloadn f185_43 rfl ?_
    refine w_iconst (v := 0) f185_44 (by decide) ?_
    refine w_iast f185_45 (by assumption) (by omega) ?_
    refine w_iincn f185_46 rfl (by omega) (sto_3_2 rfl) ?_
    refine w_goto (t := 33) f185_49 (by decide) ?_
    exact ih _ _ (by omega) (by omega) (hC.put.ex ((zr_up (by omega)).trans (by rw [show (k + 1).toNat - 59 = k.toNat - 59 + 1 by omega]))) g
def clrW (w : Nat → Int) : Nat → Int := udI (udI (zr (zr w 12 6) 59 34) 18 0) (59 + w 5).toNat 1
theorem l185c {h0 : Nat → Nat → Int} {x : Int} (h5 : 0 ≤ w 5 ∧ w 5 ≤ 9) (hC : Ch h0 (zr (zr w 12 6) 59 34) h) : Rn (ev 185 52 [AR 268, AI x, AI 93] [] (KS r d, h, R)) (fun q => ∃ h1, Ch h0 (clrW w) h1 ∧ q = (.inl (AI x), (KS r d, h1, R))) := by
  have k0 := @kd_268 r d
  have k1 := @kd_269 r d
  have e5 : h 269 5 = w 5 := by rw [hC.1]; rfl
  refine w_aloadn f185_52 rfl (by omega) ?_
  refine w_getR f185_53 (by assumption) rfl (by omega) ?_
  refine w_bipush (v := 18) f185_56 (by decide) ?_
  refine w_iconst (v := 0) f185_58 (by decide) ?_
  refine w_iast f185_59 (by assumption) (by omega) ?_
  refine w_aloadn f185_60 rfl (by omega) ?_
  refine w_getR f185_61 (by assumption) rfl (by omega) ?_
  refine w_bipush (v := 59) f185_64 (by decide) ?_
  refine w_aloadn f185_66 rfl (by omega) ?_
  refine w_getR f185_67 (by assumption) rfl (by omega) ?_
  refine w_iconst (v := 5) f185_70 (by decide) ?_
  refine w_iald f185_71 (by assumption) (by omega) (by (try simp only [hput, hcopy, Nat.reduceEqDiff, Nat.add_left_cancel_iff, Nat.add_right_cancel_iff, Nat.left_eq_add, Nat.add_eq_left, Nat.right_eq_add, Nat.add_eq_right, Nat.reduceAdd, Nat.add_zero, Nat.succ_ne_self, Nat.one_ne_zero, Nat.zero_ne_one, eq_self, and_self, and_true, true_and, and_false, false_and, if_true, if_false, reduceIte, Int.reduceToNat, Int.toNat_natCast, e5]); exact rfl) ?_
  refine w_iaddn f185_72 (by omega) ?_
  refine w_iconst (v := 1) f185_73 (by decide) ?_
  refine w_iast f185_74 (by assumption) (by omega) ?_
  refine w_iloadn f185_75 rfl ?_
  refine w_iret f185_76 rfl ?_
  exact ⟨_, hC.put.put, rfl⟩
theorem l185d {h0 : Nat → Nat → Int} {Q : Out → Prop} {x : Int} (g : Rn (ev 185 33 [AR 268, AI x, AI 59] [] σ) Q) : Rn (ev 185 30 [AR 268, AI x, AI 18] [] σ) Q := by
  refine w_bipush (v := 59) f185_30 (by decide) ?_
  refine w_istoren f185_32 (Nat.le_of_ble_eq_true rfl) (sto_3_2 rfl) ?_
  exact g
theorem s185 (hw : h 269 = w) (h5 : 0 ≤ w 5 ∧ w 5 ≤ 9) : Rn (ev 185 0 [AR 268, AU, AU] [] (KS r d, h, R)) (fun q => ∃ h1, Ch h (clrW w) h1 ∧ q = (.inl (AI (w 12)), (KS r d, h1, R))) := by
  have k0 := @kd_268 r d
  have k1 := @kd_269 r d
  refine w_aloadn f185_0 rfl (by omega) ?_
  refine w_getR f185_1 (by assumption) rfl (by omega) ?_
  refine w_bipush (v := 12) f185_4 (by decide) ?_
  refine w_iald f185_6 (by assumption) (by omega) (by (try simp only [hput, hcopy, Nat.reduceEqDiff, Nat.add_left_cancel_iff, Nat.add_right_cancel_iff, Nat.left_eq_add, Nat.add_eq_left, Nat.right_eq_add, Nat.add_eq_right, Nat.reduceAdd, Nat.add_zero, Nat.succ_ne_self, Nat.one_ne_zero, Nat.zero_ne_one, eq_self, and_self, and_true, true_and, and_false, false_and, if_true, if_false, reduceIte, Int.reduceToNat, Int.toNat_natCast, hw]); exact rfl) ?_
  refine w_istoren f185_7 (Nat.le_of_ble_eq_true rfl) (sto_3_1 rfl) ?_
  refine w_bipush (v := 12) f185_8 (by decide) ?_
  refine w_istoren f185_10 (Nat.le_of_ble_eq_true rfl) (sto_3_2 rfl) ?_
  refine l185a 6 12 h (by omega) (by omega) ((Ch.rf hw).ex zr_0.symm) (fun h1 q1 => ?_)
  refine l185d (h0 := h) ?_
  exact l185b 34 59 h1 (by omega) (by omega) (q1.ex zr_0.symm) (fun h2 q2 => l185c h5 q2)
end A

/-! the reference's output -/
section A
variable {K : List AKd} {h : Nat → Nat → Int} {R : R4} {σ : Sg} {r d : Nat} {w : Nat → Int}
/-- bytes written, how many -/
abbrev OT : Type := (Nat → Int) × Int
def wrO (T : OT) (c : Int) : OT := (udI T.1 T.2.toNat c, T.2 + 1)
def nmO (w : Nat → Int) (c : Int) : Nat → Int → OT → OT
  | 0, _, T => T
  | n + 1, i, T => nmO w c n (i + 1) (wrO T (w (c + 1 + i).toNat))
def nmW (w : Nat → Int) (c : Int) (T : OT) : OT := nmO w c (w c.toNat).toNat 0 T
def vaO (w : Nat → Int) : Nat → Int → OT → OT
  | 0, _, T => T
  | n + 1, k, T => vaO w n (k + 1) (wrO (wrO (nmW w (483 + 7 * k) (wrO T 32)) 61) (48 + w (6 + k).toNat))
def outW (w : Nat → Int) : OT := vaO w (w 2).toNat 0 (nmW w (357 + 7 * w 5) (fun _ => 0, 0))
theorem nmO_n {c : Int} : ∀ (n : Nat) (i : Int) (T : OT), (nmO w c n i T).2 = T.2 + n
  | 0, _, T => by show T.2 = T.2 + ((0 : Nat) : Int); omega
  | n + 1, i, T => by
    show (nmO w c n (i + 1) (wrO T (w (c + 1 + i).toNat))).2 = _
    rw [nmO_n n]
    show T.2 + 1 + (n : Int) = T.2 + ((n + 1 : Nat) : Int)
    omega
theorem nmW_n {c : Int} {T : OT} (hc : 0 ≤ w c.toNat ∧ w c.toNat ≤ 6) : (nmW w c T).2 ≤ T.2 + 6 ∧ T.2 ≤ (nmW w c T).2 := by
  unfold nmW
  rw [nmO_n]
  omega
def OC (h0 : Nat → Nat → Int) (T : OT) (h : Nat → Nat → Int) : Prop := h 268 30 = T.2 ∧ (∀ y : Nat, (y : Int) < T.2 → h 281 y = T.1 y) ∧ ∀ x y, x ≠ 281 → ¬ (x = 268 ∧ y = 30) → h x y = h0 x y
theorem OC.hw {h0 : Nat → Nat → Int} {T : OT} (q : OC h0 T h) (hw : h0 269 = w) : h 269 = w := by
  subst hw
  exact funext fun y => q.2.2 269 y (by decide) (fun z => absurd z.1 (by decide))
theorem s278 {h0 : Nat → Nat → Int} {T : OT} {c : Int} (hT : 0 ≤ T.2 ∧ T.2 ≤ 59) (hO : OC h0 T h) : Rn (ev 278 0 [AR 268, AI c] [] (KS r d, h, R)) (fun o => ∃ h1, OC h0 (wrO T c) h1 ∧ o = (.inl AU, (KS r d, h1, R))) := by
  have k0 := @kd_268 r d
  have k1 := @kd_281 r d
  have e1 := hO.1
  refine w_aloadn f278_0 rfl (by omega) ?_
  refine w_getR f278_1 (by assumption) rfl (by omega) ?_
  refine w_aloadn f278_4 rfl (by omega) ?_
  refine w_getI f278_5 (by decide) (by assumption) (by (try simp only [hput, hcopy, Nat.reduceEqDiff, Nat.add_left_cancel_iff, Nat.add_right_cancel_iff, Nat.left_eq_add, Nat.add_eq_left, Nat.right_eq_add, Nat.add_eq_right, Nat.reduceAdd, Nat.add_zero, Nat.succ_ne_self, Nat.one_ne_zero, Nat.zero_ne_one, eq_self, and_self, and_true, true_and, and_false, false_and, if_true, if_false, reduceIte, Int.reduceToNat, Int.toNat_natCast, e1]); exact rfl) ?_
  refine w_iloadn f278_8 rfl ?_
  refine w_iast f278_9 (by assumption) (by omega) ?_
  refine w_aloadn f278_10 rfl (by omega) ?_
  refine w_dup f278_11 rfl ?_
  refine w_getI f278_12 (by decide) (by assumption) (by (try simp only [hput, hcopy, Nat.reduceEqDiff, Nat.add_left_cancel_iff, Nat.add_right_cancel_iff, Nat.left_eq_add, Nat.add_eq_left, Nat.right_eq_add, Nat.add_eq_right, Nat.reduceAdd, Nat.add_zero, Nat.succ_ne_self, Nat.one_ne_zero, Nat.zero_ne_one, eq_self, and_self, and_true, true_and, and_false, false_and, if_true, if_false, reduceIte, Int.reduceToNat, Int.toNat_natCast, e1]); exact rfl) ?_
  refine w_iconst (v := 1) f278_15 (by decide) ?_
  refine w_iaddn f278_16 (by omega) ?_
  refine w_putI f278_17 (by assumption) ?_
  refine w_ret f278_20 rfl ?_
  refine ⟨_, ⟨hput_s, fun y hy => ?_, fun x y n1 n2 => ?_⟩, rfl⟩
  · have hy : (y : Int) < T.2 + 1 := hy
    rw [hput_k (by decide)]
    show hput h 281 T.2.toNat c 281 y = udI T.1 T.2.toNat c y
    unfold hput udI
    by_cases e : y = T.2.toNat
    · rw [if_pos ⟨rfl, e⟩, if_pos e]
    · rw [if_neg (fun z => e z.2), if_neg e]
      exact hO.2.1 y (by omega)
  · exact (if_neg n2).trans ((hput_k n1).trans (hO.2.2 x y n1 n2))
theorem l279 {h0 : Nat → Nat → Int} {c : Int} (hw : h0 269 = w) (hc : 0 ≤ c ∧ c ≤ 497) (hn : w c.toNat ≤ 6) : ∀ (n : Nat) (i : Int) (T : OT) (h : Nat → Nat → Int), 0 ≤ i → i + n = w c.toNat → 0 ≤ T.2 → T.2 + n ≤ 60 → OC h0 T h →
    Rn (ev 279 2 [AR 268, AI c, AI i] [] (KS r d, h, R)) (fun o => ∃ h1, OC h0 (nmO w c n i T) h1 ∧ o = (.inl AU, (KS r d, h1, R))) := by
  intro n
  have k0 := @kd_268 r d
  have k1 := @kd_269 r d
  induction n with
  | zero =>
    intro i T h h1 h2 h3 h4 hO
    have hw1 := hO.hw hw
    refine w_iloadn f279_2 rfl ?_
    refine w_aloadn f279_3 rfl (by omega) ?_
    refine w_getR f279_4 (by assumption) rfl (by omega) ?_
    refine w_iloadn f279_7 rfl ?_
    refine w_iald f279_8 (by assumption) (by omega) (by (try simp only [hput, hcopy, Nat.reduceEqDiff, Nat.add_left_cancel_iff, Nat.add_right_cancel_iff, Nat.left_eq_add, Nat.add_eq_left, Nat.right_eq_add, Nat.add_eq_right, Nat.reduceAdd, Nat.add_zero, Nat.succ_ne_self, Nat.one_ne_zero, Nat.zero_ne_one, eq_self, and_self, and_true, true_and, and_false, false_and, if_true, if_false, reduceIte, Int.reduceToNat, Int.toNat_natCast, hw1]); exact rfl) ?_
    refine w_ic_ge (t := 32) f279_9 (by decide) (fun c1 => ?_) (fun c1 => by omega)
    refine w_ret f279_32 rfl ?_
    exact ⟨h, hO, rfl⟩
  | succ n ih =>
    intro i T h h1 h2 h3 h4 hO
    have hw1 := hO.hw hw
    refine w_iloadn f279_2 rfl ?_
    refine w_aloadn f279_3 rfl (by omega) ?_
    refine w_getR f279_4 (by assumption) rfl (by omega) ?_
    refine w_iloadn f279_7 rfl ?_
    refine w_iald f279_8 (by assumption) (by omega) (by (try simp only [hput, hcopy, Nat.reduceEqDiff, Nat.add_left_cancel_iff, Nat.add_right_cancel_iff, Nat.left_eq_add, Nat.add_eq_left, Nat.right_eq_add, Nat.add_eq_right, Nat.reduceAdd, Nat.add_zero, Nat.succ_ne_self, Nat.one_ne_zero, Nat.zero_ne_one, eq_self, and_self, and_true, true_and, and_false, false_and, if_true, if_false, reduceIte, Int.reduceToNat, Int.toNat_natCast, hw1]); exact rfl) ?_
    refine w_ic_ge (t := 32) f279_9 (by decide) (fun c1 => by omega) (fun c1 => ?_)
    refine w_aloadn f279_12 rfl (by omega) ?_
    refine w_aloadn f279_13 rfl (by omega) ?_
    refine w_getR f279_14 (by assumption) rfl (by omega) ?_
    refine w_iloadn f279_17 rfl ?_
    refine w_iconst (v := 1) f279_18 (by decide) ?_
    refine w_iaddn f279_19 (by omega) ?_
    refine w_iloadn f279_20 rfl ?_
    refine w_iaddn f279_21 (by omega) ?_
    refine w_iald f279_22 (by assumption) (by omega) (by (try simp only [hput, hcopy, Nat.reduceEqDiff, Nat.add_left_cancel_iff, Nat.add_right_cancel_iff, Nat.left_eq_add, Nat.add_eq_left, Nat.right_eq_add, Nat.add_eq_right, Nat.reduceAdd, Nat.add_zero, Nat.succ_ne_self, Nat.one_ne_zero, Nat.zero_ne_one, eq_self, and_self, and_true, true_and, and_false, false_and, if_true, if_false, reduceIte, Int.reduceToNat, Int.toNat_natCast, hw1]); exact rfl) ?_
    refine w_qV f279_23 (Or.inl rfl) rfl (by omega) (okd_of (by assumption)) rfl ⟨Nat.le_of_ble_eq_true rfl, rfl, Nat.le_of_ble_eq_true rfl⟩ (en278 _ _) (s278 (by omega) hO) (fun o9 ho9 => ?_)
    obtain ⟨h5, q5, rfl⟩ := ho9
    refine w_bok (pv278 _ _) ?_
    refine w_iincn f279_26 rfl (by omega) (sto_3_2 rfl) ?_
    refine w_goto (t := 2) f279_29 (by decide) ?_
    exact ih _ _ _ (by omega) (by omega) (by show 0 ≤ T.2 + 1; omega) (by show T.2 + 1 + (n : Int) ≤ 60; omega) q5
theorem s279 {h0 : Nat → Nat → Int} {c : Int} {T : OT} (hw : h0 269 = w) (hc : 0 ≤ c ∧ c ≤ 497) (hn : 0 ≤ w c.toNat ∧ w c.toNat ≤ 6) (h3 : 0 ≤ T.2 ∧ T.2 ≤ 54) (hO : OC h0 T h) : Rn (ev 279 0 [AR 268, AI c, AU] [] (KS r d, h, R)) (fun o => ∃ h1, OC h0 (nmW w c T) h1 ∧ o = (.inl AU, (KS r d, h1, R))) := by
  refine w_iconst (v := 0) f279_0 (by decide) ?_
  refine w_istoren f279_1 (Nat.le_of_ble_eq_true rfl) (sto_3_2 rfl) ?_
  exact l279 hw hc hn.2 (w c.toNat).toNat 0 T h (by omega) (by omega) h3.1 (by omega) hO
/-- the names' lengths -/
def WFn (w : Nat → Int) : Prop := (∀ i, 0 ≤ i → i < w 0 → 0 ≤ w (357 + 7 * i).toNat ∧ w (357 + 7 * i).toNat ≤ 6) ∧ (∀ i, 0 ≤ i → i < w 1 → 0 ≤ w (427 + 7 * i).toNat ∧ w (427 + 7 * i).toNat ≤ 6) ∧ ∀ i, 0 ≤ i → i < w 2 → 0 ≤ w (483 + 7 * i).toNat ∧ w (483 + 7 * i).toNat ≤ 6
theorem l280 {h0 : Nat → Nat → Int} (hw : h0 269 = w) (hc : WFc w) (hV : w 2 ≤ 3) (hN : WFn w) : ∀ (n : Nat) (k : Int) (T : OT) (h : Nat → Nat → Int), 0 ≤ k → k + n = w 2 → 0 ≤ T.2 → T.2 ≤ 6 + 9 * k → OC h0 T h →
    Rn (ev 280 29 [AR 268, AI k] [] (KS r d, h, R)) (fun o => ∃ h1, OC h0 (vaO w n k T) h1 ∧ o = (.inl (AI (vaO w n k T).2), (KS r d, h1, R))) := by
  intro n
  have k0 := @kd_268 r d
  have k1 := @kd_269 r d
  obtain ⟨-, c6, c7, c8⟩ := hc
  induction n with
  | zero =>
    intro k T h h1 h2 h3 h4 hO
    have hw1 := hO.hw hw
    refine w_iloadn f280_29 rfl ?_
    refine w_aloadn f280_30 rfl (by omega) ?_
    refine w_getR f280_31 (by assumption) rfl (by omega) ?_
    refine w_iconst (v := 2) f280_34 (by decide) ?_
    refine w_iald f280_35 (by assumption) (by omega) (by (try simp only [hput, hcopy, Nat.reduceEqDiff, Nat.add_left_cancel_iff, Nat.add_right_cancel_iff, Nat.left_eq_add, Nat.add_eq_left, Nat.right_eq_add, Nat.add_eq_right, Nat.reduceAdd, Nat.add_zero, Nat.succ_ne_self, Nat.one_ne_zero, Nat.zero_ne_one, eq_self, and_self, and_true, true_and, and_false, false_and, if_true, if_false, reduceIte, Int.reduceToNat, Int.toNat_natCast, hw1]); exact rfl) ?_
    refine w_ic_ge (t := 85) f280_36 (by decide) (fun c1 => ?_) (fun c1 => by omega)
    refine w_aloadn f280_85 rfl (by omega) ?_
    refine w_getI f280_86 (by decide) (by assumption) (by exact hO.1) ?_
    refine w_iret f280_89 rfl ?_
    exact ⟨h, hO, rfl⟩
  | succ n ih =>
    intro k T h h1 h2 h3 h4 hO
    have hw1 := hO.hw hw
    have g := hN.2.2 k h1 (by omega)
    have gn := nmW_n (T := wrO T 32) g
    have g1 : (wrO T 32).2 = T.2 + 1 := rfl
    have gv : 0 ≤ w (6 + k).toNat ∧ w (6 + k).toNat ≤ 9 := by
      rcases (show k = 0 ∨ k = 1 ∨ k = 2 by omega) with e | e | e
      · subst e; exact c6
      · subst e; exact c7
      · subst e; exact c8
    refine w_iloadn f280_29 rfl ?_
    refine w_aloadn f280_30 rfl (by omega) ?_
    refine w_getR f280_31 (by assumption) rfl (by omega) ?_
    refine w_iconst (v := 2) f280_34 (by decide) ?_
    refine w_iald f280_35 (by assumption) (by omega) (by (try simp only [hput, hcopy, Nat.reduceEqDiff, Nat.add_left_cancel_iff, Nat.add_right_cancel_iff, Nat.left_eq_add, Nat.add_eq_left, Nat.right_eq_add, Nat.add_eq_right, Nat.reduceAdd, Nat.add_zero, Nat.succ_ne_self, Nat.one_ne_zero, Nat.zero_ne_one, eq_self, and_self, and_true, true_and, and_false, false_and, if_true, if_false, reduceIte, Int.reduceToNat, Int.toNat_natCast, hw1]); exact rfl) ?_
    refine w_ic_ge (t := 85) f280_36 (by decide) (fun c1 => by omega) (fun c1 => ?_)
    refine w_aloadn f280_39 rfl (by omega) ?_
    refine w_bipush (v := 32) f280_40 (by decide) ?_
    refine w_qV f280_42 (Or.inl rfl) rfl (by omega) (okd_of (by assumption)) rfl ⟨Nat.le_of_ble_eq_true rfl, rfl, Nat.le_of_ble_eq_true rfl⟩ (en278 _ _) (s278 (by omega) hO) (fun o9 ho9 => ?_)
    obtain ⟨h5, q5, rfl⟩ := ho9
    refine w_bok (pv278 _ _) ?_
    refine w_aloadn f280_45 rfl (by omega) ?_
    refine w_sipush (v := 483) f280_46 (by decide) ?_
    refine w_bipush (v := 7) f280_49 (by decide) ?_
    refine w_iloadn f280_51 rfl ?_
    refine w_imuln f280_52 (by omega) ?_
    refine w_iaddn f280_53 (by omega) ?_
    refine w_qV f280_54 (Or.inl rfl) rfl (by omega) (okd_of (by assumption)) rfl ⟨Nat.le_of_ble_eq_true rfl, rfl, Nat.le_of_ble_eq_true rfl⟩ (en279 _ _) (s279 hw (by omega) g (by omega) q5) (fun o9 ho9 => ?_)
    obtain ⟨h6, q6, rfl⟩ := ho9
    refine w_bok (pv279 _ _) ?_
    refine w_aloadn f280_57 rfl (by omega) ?_
    refine w_bipush (v := 61) f280_58 (by decide) ?_
    refine w_qV f280_60 (Or.inl rfl) rfl (by omega) (okd_of (by assumption)) rfl ⟨Nat.le_of_ble_eq_true rfl, rfl, Nat.le_of_ble_eq_true rfl⟩ (en278 _ _) (s278 (by omega) q6) (fun o9 ho9 => ?_)
    obtain ⟨h7, q7, rfl⟩ := ho9
    refine w_bok (pv278 _ _) ?_
    refine w_aloadn f280_63 rfl (by omega) ?_
    refine w_bipush (v := 48) f280_64 (by decide) ?_
    refine w_aloadn f280_66 rfl (by omega) ?_
    refine w_getR f280_67 (by assumption) rfl (by omega) ?_
    refine w_bipush (v := 6) f280_70 (by decide) ?_
    refine w_iloadn f280_72 rfl ?_
    refine w_iaddn f280_73 (by omega) ?_
    refine w_iald f280_74 (by assumption) (by omega) (by exact congrFun (q7.hw hw) _) ?_
    refine w_iaddn f280_75 (by omega) ?_
    refine w_qV f280_76 (Or.inl rfl) rfl (by omega) (okd_of (by assumption)) rfl ⟨Nat.le_of_ble_eq_true rfl, rfl, Nat.le_of_ble_eq_true rfl⟩ (en278 _ _) (s278 (by show 0 ≤ (nmW w (483 + 7 * k) (wrO T 32)).2 + 1 ∧ (nmW w (483 + 7 * k) (wrO T 32)).2 + 1 ≤ 59; omega) q7) (fun o9 ho9 => ?_)
    obtain ⟨h8, q8, rfl⟩ := ho9
    refine w_bok (pv278 _ _) ?_
    refine w_iincn f280_79 rfl (by omega) (sto_2_1 rfl) ?_
    refine w_goto (t := 29) f280_82 (by decide) ?_
    exact ih _ _ _ (by omega) (by omega) (by show 0 ≤ (nmW w (483 + 7 * k) (wrO T 32)).2 + 1 + 1; omega) (by show (nmW w (483 + 7 * k) (wrO T 32)).2 + 1 + 1 ≤ 6 + 9 * (k + 1); omega) q8
theorem s280 (hw : h 269 = w) (hc : WFc w) (hV : 0 ≤ w 2 ∧ w 2 ≤ 3) (h5 : w 5 < w 0 ∧ w 0 ≤ 10) (hN : WFn w) : Rn (ev 280 0 [AR 268, AU] [] (KS r d, h, R)) (fun o => ∃ h1, OC (hput h 268 6 0) (outW w) h1 ∧ o = (.inl (AI (outW w).2), (KS r d, h1, R))) := by
  have k0 := @kd_268 r d
  have k1 := @kd_269 r d
  have g := hN.1 (w 5) hc.1.1 h5.1
  have c5 := hc.1
  have gn := nmW_n (T := (fun _ => 0, 0)) g
  have g0 : ((fun _ => 0, 0) : OT).2 = 0 := rfl
  have hO : OC (hput h 268 6 0) ((fun _ => 0, 0) : OT) (hput (hput h 268 6 0) 268 30 0) := ⟨hput_s, fun y hy => absurd (show (y : Int) < 0 from hy) (by omega), fun x y n1 n2 => if_neg n2⟩
  refine w_aloadn f280_0 rfl (by omega) ?_
  refine w_iconst (v := 0) f280_1 (by decide) ?_
  refine w_putI f280_2 (by assumption) ?_
  refine w_aloadn f280_5 rfl (by omega) ?_
  refine w_iconst (v := 0) f280_6 (by decide) ?_
  refine w_putI f280_7 (by assumption) ?_
  refine w_aloadn f280_10 rfl (by omega) ?_
  refine w_sipush (v := 357) f280_11 (by decide) ?_
  refine w_bipush (v := 7) f280_14 (by decide) ?_
  refine w_aloadn f280_16 rfl (by omega) ?_
  refine w_getR f280_17 (by assumption) rfl (by omega) ?_
  refine w_iconst (v := 5) f280_20 (by decide) ?_
  refine w_iald f280_21 (by assumption) (by omega) (by (try simp only [hput, hcopy, Nat.reduceEqDiff, Nat.add_left_cancel_iff, Nat.add_right_cancel_iff, Nat.left_eq_add, Nat.add_eq_left, Nat.right_eq_add, Nat.add_eq_right, Nat.reduceAdd, Nat.add_zero, Nat.succ_ne_self, Nat.one_ne_zero, Nat.zero_ne_one, eq_self, and_self, and_true, true_and, and_false, false_and, if_true, if_false, reduceIte, Int.reduceToNat, Int.toNat_natCast, hw]); exact rfl) ?_
  refine w_imuln f280_22 (by omega) ?_
  refine w_iaddn f280_23 (by omega) ?_
  refine w_qV f280_24 (Or.inl rfl) rfl (by omega) (okd_of (by assumption)) rfl ⟨Nat.le_of_ble_eq_true rfl, rfl, Nat.le_of_ble_eq_true rfl⟩ (en279 _ _) (s279 (w := w) (by repeat (first | exact hw | refine setv_w ?_ (by decide) | refine hput_w ?_ (by decide))) (by omega) g (by decide) hO) (fun o9 ho9 => ?_)
  obtain ⟨h6, q6, rfl⟩ := ho9
  refine w_bok (pv279 _ _) ?_
  refine w_iconst (v := 0) f280_27 (by decide) ?_
  refine w_istoren f280_28 (Nat.le_of_ble_eq_true rfl) (sto_2_1 rfl) ?_
  exact l280 (w := w) (by repeat (first | exact hw | refine setv_w ?_ (by decide) | refine hput_w ?_ (by decide))) hc hV.2 hN (w 2).toNat 0 _ _ (by omega) (by omega) (by omega) (by omega) q6
end A

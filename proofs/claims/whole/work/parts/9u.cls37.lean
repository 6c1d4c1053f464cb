/-! the class: what is written; looking ahead -/
section A
variable {K : List AKd} {h : Nat → Nat → Int} {R : R4} {σ : Sg} {r d : Nat} {w : Nat → Int} {b : Nat → Int} {n : Int}
/-- the bytes that the class has written -/
def OCc (h0 : Nat → Nat → Int) (T : OT) (h : Nat → Nat → Int) : Prop := h 1 10 = T.2 ∧ (∀ y : Nat, (y : Int) < T.2 → h 155 y = T.1 y) ∧ ∀ x y, x ≠ 155 → ¬ (x = 1 ∧ y = 10) → h x y = h0 x y
theorem s145 {h0 : Nat → Nat → Int} {T : OT} {c : Int} (hT : 0 ≤ T.2 ∧ T.2 ≤ 39) (hO : OCc h0 T h) : Rn (ev 145 0 [AR 1, AI c] [] (KS r d, h, R)) (fun o => ∃ h1, OCc h0 (wrO T c) h1 ∧ o = (.inl AU, (KS r d, h1, R))) := by
  have k1 := @kd_1 r d
  have k2 := @kd_155 r d
  obtain ⟨a1, a2, a3⟩ := hO
  refine w_aloadn f145_0 rfl (by omega) ?_
  refine w_getI f145_1 (by decide) (by assumption) (by (try simp only [hput, hcopy, Nat.reduceEqDiff, Nat.add_left_cancel_iff, Nat.add_right_cancel_iff, Nat.left_eq_add, Nat.add_eq_left, Nat.right_eq_add, Nat.add_eq_right, Nat.reduceAdd, Nat.add_zero, Nat.succ_ne_self, Nat.one_ne_zero, Nat.zero_ne_one, eq_self, and_self, and_true, true_and, and_false, false_and, if_true, if_false, reduceIte, Int.reduceToNat, Int.toNat_natCast, a1]); exact rfl) ?_
  refine w_bipush (v := 40) f145_4 (by decide) ?_
  refine w_ic_ge (t := 29) f145_6 (by decide) (fun c1 => by omega) (fun c1 => ?_)
  refine w_aloadn f145_9 rfl (by omega) ?_
  refine w_getR f145_10 (by assumption) rfl (by omega) ?_
  refine w_aloadn f145_13 rfl (by omega) ?_
  refine w_getI f145_14 (by decide) (by assumption) (by (try simp only [hput, hcopy, Nat.reduceEqDiff, Nat.add_left_cancel_iff, Nat.add_right_cancel_iff, Nat.left_eq_add, Nat.add_eq_left, Nat.right_eq_add, Nat.add_eq_right, Nat.reduceAdd, Nat.add_zero, Nat.succ_ne_self, Nat.one_ne_zero, Nat.zero_ne_one, eq_self, and_self, and_true, true_and, and_false, false_and, if_true, if_false, reduceIte, Int.reduceToNat, Int.toNat_natCast, a1]); exact rfl) ?_
  refine w_iloadn f145_17 rfl ?_
  refine w_iast f145_18 (by assumption) (by omega) ?_
  refine w_aloadn f145_19 rfl (by omega) ?_
  refine w_dup f145_20 rfl ?_
  refine w_getI f145_21 (by decide) (by assumption) (by exact (hput_k (by decide)).trans a1) ?_
  refine w_iconst (v := 1) f145_24 (by decide) ?_
  refine w_iaddn f145_25 (by omega) ?_
  refine w_putI f145_26 (by assumption) ?_
  refine w_ret f145_29 rfl ?_
  refine ⟨_, ⟨hput_s, fun y hy => ?_, fun x y x1 x2 => (if_neg x2).trans ((if_neg (fun z => x1 z.1)).trans (a3 x y x1 x2))⟩, rfl⟩
  have hy : (y : Int) < T.2 + 1 := hy
  refine (hput_k (by decide)).trans ?_
  show _ = udI T.1 T.2.toNat c y
  unfold udI
  by_cases z : y = T.2.toNat
  · rw [if_pos z, z]; exact hput_s
  · rw [if_neg z]; exact (if_neg (fun q => z q.2)).trans (a2 y (by omega))
theorem OCc.nm {h0 : Nat → Nat → Int} {T : OT} {k : Nat} {f c : Int} (hO : OCc h0 T h) (q : RNm h0 k w f c) (hc : w c.toNat ≤ 10) (h1 : 1 < k) (h2 : k + 13 ≤ 155 ∨ 155 < k) : RNm h k w f c := q.fr hc (fun x y z1 z2 => hO.2.2 x y (by omega) (by omega))
theorem l144 {h0 : Nat → Nat → Int} {k : Nat} {f c i : Int} (hk : ShNm (KS r d) k) (k0 : 1 < k) (k2 : k + 13 ≤ 155 ∨ 155 < k) (hv : RNm h0 k w f c) (hc : w c.toNat ≤ 10) (hi : 0 ≤ i ∧ i < w c.toNat) (hl : 0 ≤ w (f + 7 * i).toNat ∧ w (f + 7 * i).toNat ≤ 6) : ∀ (n : Nat) (j : Int) (T : OT) (h : Nat → Nat → Int), 0 ≤ j → j + n = w (f + 7 * i).toNat → 0 ≤ T.2 → T.2 + n ≤ 40 → OCc h0 T h → Rn (ev 144 2 [AR 1, AR k, AI i, AI j] [] (KS r d, h, R)) (fun o => ∃ h1, OCc h0 (nmO w (f + 7 * i) n j T) h1 ∧ o = (.inl AU, (KS r d, h1, R))) := by
  intro n
  have q1 := @kd_1 r d
  obtain ⟨k1, k3, k4, k5⟩ := hk
  have k6 := k4 i.toNat (by omega)
  induction n with
  | zero =>
    intro j T h h1 h2 h3 h4 hO
    obtain ⟨e1, e2⟩ := (hO.nm hv hc k0 k2).v hi
    refine w_iloadn f144_2 rfl ?_
    refine w_aloadn f144_3 rfl (by omega) ?_
    refine w_getR f144_4 (by assumption) rfl (by omega) ?_
    refine w_iloadn f144_7 rfl ?_
    refine w_iald f144_8 (by assumption) (by omega) (by (try simp only [hput, hcopy, Nat.reduceEqDiff, Nat.add_left_cancel_iff, Nat.add_right_cancel_iff, Nat.left_eq_add, Nat.add_eq_left, Nat.right_eq_add, Nat.add_eq_right, Nat.reduceAdd, Nat.add_zero, Nat.succ_ne_self, Nat.one_ne_zero, Nat.zero_ne_one, eq_self, and_self, and_true, true_and, and_false, false_and, if_true, if_false, reduceIte, Int.reduceToNat, Int.toNat_natCast, e1]); exact rfl) ?_
    refine w_ic_ge (t := 30) f144_9 (by decide) (fun c1 => ?_) (fun c1 => by omega)
    refine w_ret f144_30 rfl ?_
    exact ⟨h, hO, rfl⟩
  | succ n ih =>
    intro j T h h1 h2 h3 h4 hO
    obtain ⟨e1, e2⟩ := (hO.nm hv hc k0 k2).v hi
    have e3 := e2 j h1 (by omega)
    refine w_iloadn f144_2 rfl ?_
    refine w_aloadn f144_3 rfl (by omega) ?_
    refine w_getR f144_4 (by assumption) rfl (by omega) ?_
    refine w_iloadn f144_7 rfl ?_
    refine w_iald f144_8 (by assumption) (by omega) (by (try simp only [hput, hcopy, Nat.reduceEqDiff, Nat.add_left_cancel_iff, Nat.add_right_cancel_iff, Nat.left_eq_add, Nat.add_eq_left, Nat.right_eq_add, Nat.add_eq_right, Nat.reduceAdd, Nat.add_zero, Nat.succ_ne_self, Nat.one_ne_zero, Nat.zero_ne_one, eq_self, and_self, and_true, true_and, and_false, false_and, if_true, if_false, reduceIte, Int.reduceToNat, Int.toNat_natCast, e1, e3]); exact rfl) ?_
    refine w_ic_ge (t := 30) f144_9 (by decide) (fun c1 => by omega) (fun c1 => ?_)
    refine w_aloadn f144_12 rfl (by omega) ?_
    refine w_aloadn f144_13 rfl (by omega) ?_
    refine w_getR f144_14 (by assumption) rfl (by omega) ?_
    refine w_iloadn f144_17 rfl ?_
    refine w_aald f144_18 (by assumption) (by decide) (by omega) (rowNm (by omega)) (by omega) ?_
    refine w_iloadn f144_19 rfl ?_
    refine w_iald f144_20 (by assumption) (by omega) (by (try simp only [hput, hcopy, Nat.reduceEqDiff, Nat.add_left_cancel_iff, Nat.add_right_cancel_iff, Nat.left_eq_add, Nat.add_eq_left, Nat.right_eq_add, Nat.add_eq_right, Nat.reduceAdd, Nat.add_zero, Nat.succ_ne_self, Nat.one_ne_zero, Nat.zero_ne_one, eq_self, and_self, and_true, true_and, and_false, false_and, if_true, if_false, reduceIte, Int.reduceToNat, Int.toNat_natCast, e1, e3]); exact rfl) ?_
    refine w_qV f144_21 (Or.inl rfl) rfl (by omega) (okd_of (by assumption)) rfl ⟨Nat.le_of_ble_eq_true rfl, rfl, Nat.le_of_ble_eq_true rfl⟩ (en145 _ _) (s145 ⟨h3, by omega⟩ hO) (fun o9 ho9 => ?_)
    obtain ⟨h5, q5, rfl⟩ := ho9
    refine w_bok (pv145 _ _) ?_
    refine w_iincn f144_24 rfl (by omega) (sto_4_3 rfl) ?_
    refine w_goto (t := 2) f144_27 (by decide) ?_
    exact ih _ _ _ (by omega) (by omega) (by show 0 ≤ T.2 + 1; omega) (by show T.2 + 1 + (n : Int) ≤ 40; omega) q5
theorem s144 {h0 : Nat → Nat → Int} {k : Nat} {f c i : Int} {T : OT} (hk : ShNm (KS r d) k) (k0 : 1 < k) (k2 : k + 13 ≤ 155 ∨ 155 < k) (hv : RNm h0 k w f c) (hc : w c.toNat ≤ 10) (hi : 0 ≤ i ∧ i < w c.toNat) (hl : 0 ≤ w (f + 7 * i).toNat ∧ w (f + 7 * i).toNat ≤ 6) (hT : 0 ≤ T.2 ∧ T.2 ≤ 34) (hO : OCc h0 T h) : Rn (ev 144 0 [AR 1, AR k, AI i, AU] [] (KS r d, h, R)) (fun o => ∃ h1, OCc h0 (nmW w (f + 7 * i) T) h1 ∧ o = (.inl AU, (KS r d, h1, R))) := by
  refine w_iconst (v := 0) f144_0 (by decide) ?_
  refine w_istoren f144_1 (Nat.le_of_ble_eq_true rfl) (sto_4_3 rfl) ?_
  exact l144 hk k0 k2 hv hc hi hl (w (f + 7 * i).toNat).toNat 0 T h (by omega) (by omega) hT.1 (by omega) hO
theorem l128 {h0 : Nat → Nat → Int} (hr : RD2 r) (hW : WFm w) (hc : WFc w) (qv : RNm h0 (r + 27) w 483 2) (qs : RSt h0 8 w) : ∀ (n : Nat) (k : Int) (T : OT) (h : Nat → Nat → Int), 0 ≤ k → k + n = w 2 → 0 ≤ T.2 → T.2 ≤ 6 + 9 * k → OCc h0 T h → Rn (ev 128 28 [AR 1, AI k] [] (KS r d, h, R)) (fun o => ∃ h1, OCc h0 (vaO w n k T) h1 ∧ o = (.inl (AI (vaO w n k T).2), (KS r d, h1, R))) := by
  intro n
  have q1 := @kd_1 r d
  have k8 := @kd_8 r d
  have k9 := @kd_9 r d
  have k10 := @kd_10 r d
  obtain ⟨l1, -, -, n3, -⟩ := shRl (r := r) (d := d) hr
  have r0 : 156 ≤ r := by unfold RD2 at hr; omega
  have n31 := n3.1
  have hv2 := hW.1.2.2.1
  obtain ⟨hd1, hd2⟩ := hW_d hc
  induction n with
  | zero =>
    intro k T h h1 h2 h3 h4 hO
    have e1 : h (r + 27) 2 = w 2 := (hO.2.2 _ _ (by omega) (by omega)).trans qv.1
    refine w_iloadn f128_28 rfl ?_
    refine w_aloadn f128_29 rfl (by omega) ?_
    refine w_getR f128_30 (by assumption) rfl (by omega) ?_
    refine w_getR f128_33 (by assumption) rfl (by omega) ?_
    refine w_getI f128_36 (by decide) (by assumption) (by (try simp only [hput, hcopy, Nat.reduceEqDiff, Nat.add_left_cancel_iff, Nat.add_right_cancel_iff, Nat.left_eq_add, Nat.add_eq_left, Nat.right_eq_add, Nat.add_eq_right, Nat.reduceAdd, Nat.add_zero, Nat.succ_ne_self, Nat.one_ne_zero, Nat.zero_ne_one, eq_self, and_self, and_true, true_and, and_false, false_and, if_true, if_false, reduceIte, Int.reduceToNat, Int.toNat_natCast, e1]); exact rfl) ?_
    refine w_ic_ge (t := 91) f128_39 (by decide) (fun c1 => ?_) (fun c1 => by omega)
    refine w_aloadn f128_91 rfl (by omega) ?_
    refine w_getI f128_92 (by decide) (by assumption) (by exact hO.1) ?_
    refine w_iret f128_95 rfl ?_
    exact ⟨h, hO, rfl⟩
  | succ n ih =>
    intro k T h h1 h2 h3 h4 hO
    have e1 : h (r + 27) 2 = w 2 := (hO.2.2 _ _ (by omega) (by omega)).trans qv.1
    have g := hW.2.2.1.2.2 k h1 (by omega)
    have gn := nmW_n (T := wrO T 32) g
    have g1 : (wrO T 32).2 = T.2 + 1 := rfl
    have gv : h0 10 k.toNat = w (6 + k).toNat := by
      rw [← hd2 k h1 (by omega)]
      exact qs.1.v ⟨h1, by omega⟩
    have gr : 0 ≤ w (6 + k).toNat ∧ w (6 + k).toNat ≤ 9 := by
      rw [← hd2 k h1 (by omega)]
      exact vIn_r _ _
    refine w_iloadn f128_28 rfl ?_
    refine w_aloadn f128_29 rfl (by omega) ?_
    refine w_getR f128_30 (by assumption) rfl (by omega) ?_
    refine w_getR f128_33 (by assumption) rfl (by omega) ?_
    refine w_getI f128_36 (by decide) (by assumption) (by (try simp only [hput, hcopy, Nat.reduceEqDiff, Nat.add_left_cancel_iff, Nat.add_right_cancel_iff, Nat.left_eq_add, Nat.add_eq_left, Nat.right_eq_add, Nat.add_eq_right, Nat.reduceAdd, Nat.add_zero, Nat.succ_ne_self, Nat.one_ne_zero, Nat.zero_ne_one, eq_self, and_self, and_true, true_and, and_false, false_and, if_true, if_false, reduceIte, Int.reduceToNat, Int.toNat_natCast, e1]); exact rfl) ?_
    refine w_ic_ge (t := 91) f128_39 (by decide) (fun c1 => by omega) (fun c1 => ?_)
    refine w_aloadn f128_42 rfl (by omega) ?_
    refine w_bipush (v := 32) f128_43 (by decide) ?_
    refine w_qV f128_45 (Or.inl rfl) rfl (by omega) (okd_of (by assumption)) rfl ⟨Nat.le_of_ble_eq_true rfl, rfl, Nat.le_of_ble_eq_true rfl⟩ (en145 _ _) (s145 ⟨h3, by omega⟩ hO) (fun o9 ho9 => ?_)
    obtain ⟨h5, q5, rfl⟩ := ho9
    refine w_bok (pv145 _ _) ?_
    refine w_aloadn f128_48 rfl (by omega) ?_
    refine w_aloadn f128_49 rfl (by omega) ?_
    refine w_getR f128_50 (by assumption) rfl (by omega) ?_
    refine w_getR f128_53 (by assumption) rfl (by omega) ?_
    refine w_iloadn f128_56 rfl ?_
    refine w_qV f128_57 (Or.inl rfl) rfl (by omega) (okd_of (by assumption)) rfl ⟨Nat.le_of_ble_eq_true rfl, rfl, Nat.le_of_ble_eq_true rfl⟩ (en144 _ _ _) (s144 n3 (by omega) (by omega) qv (Int.le_trans hv2.2 (by decide)) ⟨h1, (show k < w 2 by omega)⟩ g ⟨by omega, by omega⟩ q5) (fun o9 ho9 => ?_)
    obtain ⟨h6, q6, rfl⟩ := ho9
    refine w_bok (pv144 _ _) ?_
    refine w_aloadn f128_60 rfl (by omega) ?_
    refine w_bipush (v := 61) f128_61 (by decide) ?_
    refine w_qV f128_63 (Or.inl rfl) rfl (by omega) (okd_of (by assumption)) rfl ⟨Nat.le_of_ble_eq_true rfl, rfl, Nat.le_of_ble_eq_true rfl⟩ (en145 _ _) (s145 (by omega) q6) (fun o9 ho9 => ?_)
    obtain ⟨h7, q7, rfl⟩ := ho9
    refine w_bok (pv145 _ _) ?_
    refine w_aloadn f128_66 rfl (by omega) ?_
    refine w_bipush (v := 48) f128_67 (by decide) ?_
    refine w_aloadn f128_69 rfl (by omega) ?_
    refine w_getR f128_70 (by assumption) rfl (by omega) ?_
    refine w_getR f128_73 (by assumption) rfl (by omega) ?_
    refine w_getR f128_76 (by assumption) rfl (by omega) ?_
    refine w_iloadn f128_79 rfl ?_
    refine w_iald f128_80 (by assumption) (by omega) (by exact (q7.2.2 _ _ (by decide) (by omega)).trans gv) ?_
    refine w_iaddn f128_81 (by omega) ?_
    refine w_qV f128_82 (Or.inl rfl) rfl (by omega) (okd_of (by assumption)) rfl ⟨Nat.le_of_ble_eq_true rfl, rfl, Nat.le_of_ble_eq_true rfl⟩ (en145 _ _) (s145 (by show 0 ≤ (nmW w (483 + 7 * k) (wrO T 32)).2 + 1 ∧ (nmW w (483 + 7 * k) (wrO T 32)).2 + 1 ≤ 39; omega) q7) (fun o9 ho9 => ?_)
    obtain ⟨h8, q8, rfl⟩ := ho9
    refine w_bok (pv145 _ _) ?_
    refine w_iincn f128_85 rfl (by omega) (sto_2_1 rfl) ?_
    refine w_goto (t := 28) f128_88 (by decide) ?_
    exact ih _ _ _ (by omega) (by omega) (by show 0 ≤ (nmW w (483 + 7 * k) (wrO T 32)).2 + 1 + 1; omega) (by show (nmW w (483 + 7 * k) (wrO T 32)).2 + 1 + 1 ≤ 6 + 9 * (k + 1); omega) q8
theorem s128 (hr : RD2 r) (hW : WFm w) (hc : WFc w) (h5 : w 5 < w 0) (qn : RNm h (r + 1) w 357 0) (qv : RNm h (r + 27) w 483 2) (qs : RSt h 8 w) : Rn (ev 128 0 [AR 1, AU] [] (KS r d, h, R)) (fun o => ∃ h1, OCc h (outW w) h1 ∧ o = (.inl (AI (outW w).2), (KS r d, h1, R))) := by
  have q1 := @kd_1 r d
  have k8 := @kd_8 r d
  have k9 := @kd_9 r d
  obtain ⟨l1, n1, -, n3, -⟩ := shRl (r := r) (d := d) hr
  have r0 : 156 ≤ r := by unfold RD2 at hr; omega
  have n11 := n1.1
  have hv0 := hW.1.1
  obtain ⟨hd1, hd2⟩ := hW_d hc
  have g := hW.2.2.1.1 (w 5) hc.1.1 h5
  have o0 : OCc h (fun _ => 0, 0) (hput h 1 10 0) := ⟨hput_s, fun y hy => absurd (show (y : Int) < 0 from hy) (by omega), fun x y x1 x2 => if_neg x2⟩
  have e9 : h 9 0 = w 5 := qs.1.1.trans hd1
  have gn := nmW_n (T := (fun _ => 0, 0)) g
  have hv2 := hW.1.2.2.1
  have c0 := hc.1.1
  refine w_aloadn f128_0 rfl (by omega) ?_
  refine w_iconst (v := 0) f128_1 (by decide) ?_
  refine w_putI f128_2 (by assumption) ?_
  refine w_aloadn f128_5 rfl (by omega) ?_
  refine w_aloadn f128_6 rfl (by omega) ?_
  refine w_getR f128_7 (by assumption) rfl (by omega) ?_
  refine w_getR f128_10 (by assumption) rfl (by omega) ?_
  refine w_aloadn f128_13 rfl (by omega) ?_
  refine w_getR f128_14 (by assumption) rfl (by omega) ?_
  refine w_getR f128_17 (by assumption) rfl (by omega) ?_
  refine w_getI f128_20 (by decide) (by assumption) (by exact (hput_k (by decide)).trans e9) ?_
  refine w_qV f128_23 (Or.inl rfl) rfl (by omega) (okd_of (by assumption)) rfl ⟨Nat.le_of_ble_eq_true rfl, rfl, Nat.le_of_ble_eq_true rfl⟩ (en144 _ _ _) (s144 (f := 357) (c := 0) n1 (by omega) (by omega) qn hv0.2 ⟨c0, h5⟩ g (by decide) o0) (fun o9 ho9 => ?_)
  obtain ⟨h2, q2, rfl⟩ := ho9
  refine w_bok (pv144 _ _) ?_
  refine w_iconst (v := 0) f128_26 (by decide) ?_
  refine w_istoren f128_27 (Nat.le_of_ble_eq_true rfl) (sto_2_1 rfl) ?_
  exact l128 hr hW hc qv qs (w 2).toNat 0 _ h2 (by omega) (by omega) (by have := gn.2; exact this) (by have := gn.1; have e : ((fun _ => 0, 0) : OT).2 = 0 := rfl; omega) q2
theorem s129 {i x : Int} (e : h 1 10 = x) (hx : x ≤ 40) : ev 129 0 [AR 1, AI i] [] (KS r d, h, R) = some (.inl (AI (if 0 ≤ i ∧ i < x then h 155 i.toNat else -1)), (KS r d, h, R)) := by
  refine Rn.eq ?_
  have k1 := @kd_1 r d
  have k2 := @kd_155 r d
  refine w_iloadn f129_0 rfl ?_
  refine w_if_lt (t := 12) f129_1 (by decide) (fun c1 => ?_) (fun c1 => ?_)
  · refine w_iconst (v := -1) f129_12 (by decide) ?_
    refine w_goto (t := 22) f129_13 (by decide) ?_
    refine w_iret f129_22 rfl ?_
    first | (rw [if_pos (by omega)]; done) | (rw [if_neg (by omega)]; done)
  · refine w_iloadn f129_4 rfl ?_
    refine w_aloadn f129_5 rfl (by omega) ?_
    refine w_getI f129_6 (by decide) (by assumption) (by (try simp only [hput, hcopy, Nat.reduceEqDiff, Nat.add_left_cancel_iff, Nat.add_right_cancel_iff, Nat.left_eq_add, Nat.add_eq_left, Nat.right_eq_add, Nat.add_eq_right, Nat.reduceAdd, Nat.add_zero, Nat.succ_ne_self, Nat.one_ne_zero, Nat.zero_ne_one, eq_self, and_self, and_true, true_and, and_false, false_and, if_true, if_false, reduceIte, Int.reduceToNat, Int.toNat_natCast, e]); exact rfl) ?_
    refine w_ic_lt (t := 16) f129_9 (by decide) (fun c2 => ?_) (fun c2 => ?_)
    · refine w_aloadn f129_16 rfl (by omega) ?_
      refine w_getR f129_17 (by assumption) rfl (by omega) ?_
      refine w_iloadn f129_20 rfl ?_
      refine w_iald f129_21 (by assumption) (by omega) (by (try simp only [hput, hcopy, Nat.reduceEqDiff, Nat.add_left_cancel_iff, Nat.add_right_cancel_iff, Nat.left_eq_add, Nat.add_eq_left, Nat.right_eq_add, Nat.add_eq_right, Nat.reduceAdd, Nat.add_zero, Nat.succ_ne_self, Nat.one_ne_zero, Nat.zero_ne_one, eq_self, and_self, and_true, true_and, and_false, false_and, if_true, if_false, reduceIte, Int.reduceToNat, Int.toNat_natCast, e]); exact rfl) ?_
      refine w_iret f129_22 rfl ?_
      first | (rw [if_pos (by omega)]; done) | (rw [if_neg (by omega)]; done)
    · refine w_iconst (v := -1) f129_12 (by decide) ?_
      refine w_goto (t := 22) f129_13 (by decide) ?_
      refine w_iret f129_22 rfl ?_
      first | (rw [if_pos (by omega)]; done) | (rw [if_neg (by omega)]; done)
/-- what the search has told -/
def SRs (h : Nat → Nat → Int) (w : Nat → Int) : Prop := (h 143 1 = (bfs w (hereW w)).2.2 ∧ h 143 2 = (bfC w (hereW w)).2.1 ∧ h 143 3 = (bfC w (hereW w)).2.2) ∧ (∀ y : Nat, y < 10 → h 144 y = (bfC w (hereW w)).1.2.2.1 y ∧ h 145 y = (bfC w (hereW w)).1.2.2.2.1 y) ∧ ∀ t : Nat, t < 24 → h 146 t = (bfC w (hereW w)).1.2.2.2.2 t
theorem SRs.fr {h1 : Nat → Nat → Int} (q : SRs h w) (e : ∀ x y, (x = 143 ∧ 1 ≤ y) ∨ (144 ≤ x ∧ x ≤ 146) → h1 x y = h x y) : SRs h1 w := by
  obtain ⟨⟨a1, a2, a3⟩, a4, a5⟩ := q
  exact ⟨⟨(e _ _ (by omega)).trans a1, (e _ _ (by omega)).trans a2, (e _ _ (by omega)).trans a3⟩, fun y hy => ⟨(e _ _ (by omega)).trans (a4 y hy).1, (e _ _ (by omega)).trans (a4 y hy).2⟩, fun t ht => (e _ _ (by omega)).trans (a5 t ht)⟩
theorem s139 (hr : RD2 r) (hW : WFm w) (hc : WFc w) (qr : CRl h r w) (q : RSt h 8 w) (hS : h 143 0 ≠ 0 → SRs h w) : Rn (ev 139 0 [AR 1] [] (KS r d, h, R)) (fun o => ∃ h1, (Ot 143 12 h h1 ∧ SRs h1 w ∧ h1 143 0 ≠ 0) ∧ o = (.inl AU, (KS r d, h1, R))) := by
  have k1 := @kd_1 r d
  have k8 := @kd_8 r d
  have k143 := @kd_143 r d
  have hl := shRl (r := r) (d := d) hr
  have r0 : 156 ≤ r := by unfold RD2 at hr; omega
  have hh := hereW_r hc
  by_cases z : h 143 0 = 0
  · refine w_aloadn f139_0 rfl (by omega) ?_
    refine w_getR f139_1 (by assumption) rfl (by omega) ?_
    refine w_getI f139_4 (by decide) (by assumption) (by (try simp only [hput, hcopy, Nat.reduceEqDiff, Nat.add_left_cancel_iff, Nat.add_right_cancel_iff, Nat.left_eq_add, Nat.add_eq_left, Nat.right_eq_add, Nat.add_eq_right, Nat.reduceAdd, Nat.add_zero, Nat.succ_ne_self, Nat.one_ne_zero, Nat.zero_ne_one, eq_self, and_self, and_true, true_and, and_false, false_and, if_true, if_false, reduceIte, Int.reduceToNat, Int.toNat_natCast]); exact rfl) ?_
    refine w_if_ne (t := 43) f139_7 (by decide) (fun c1 => absurd z (by assumption)) (fun c1 => ?_)
    refine w_aloadn f139_10 rfl (by omega) ?_
    refine w_getR f139_11 (by assumption) rfl (by omega) ?_
    refine w_aloadn f139_14 rfl (by omega) ?_
    refine w_getR f139_15 (by assumption) rfl (by omega) ?_
    refine w_aloadn f139_18 rfl (by omega) ?_
    refine w_getR f139_19 (by assumption) rfl (by omega) ?_
    refine w_getR f139_22 (by assumption) rfl (by omega) ?_
    refine w_aloadn f139_25 rfl (by omega) ?_
    refine w_getR f139_26 (by assumption) rfl (by omega) ?_
    refine w_getR f139_29 (by assumption) rfl (by omega) ?_
    refine w_qV f139_32 (Or.inl rfl) rfl (by omega) (okd_of (by assumption)) rfl ⟨Nat.le_of_ble_eq_true rfl, rfl, Nat.le_of_ble_eq_true rfl⟩ (en60 _ _ _ _) (s60 (i := 11) (j := 9) hl sh8.2.2.1 sh8.2.1 (by omega) (by decide) (by decide) (by decide) (by decide) hW qr.2.2 q.2.1 qr.1.2.1.1 hh q.1) (fun o9 ho9 => ?_)
    obtain ⟨h2, q2, rfl⟩ := ho9
    refine w_bok (pv60 _ _) ?_
    refine w_aloadn f139_35 rfl (by omega) ?_
    refine w_getR f139_36 (by assumption) rfl (by omega) ?_
    refine w_iconst (v := 1) f139_39 (by decide) ?_
    refine w_putZ f139_40 (by assumption) (by decide) ?_
    refine w_ret f139_43 rfl ?_
    obtain ⟨o, ⟨a1, a2, a3⟩, a4, a5, a6, a7⟩ := q2
    refine ⟨_, ⟨o.put (by decide) (by decide), ⟨⟨(hput_j (by decide)).trans (a1.trans (by rw [bfC_1])), (hput_j (by decide)).trans a2, (hput_j (by decide)).trans a3⟩, fun y hy => ⟨(hput_k (by decide)).trans (a4 y hy).1, (hput_k (by decide)).trans (a4 y hy).2⟩, fun t ht => (hput_k (by decide)).trans (a5 t ht)⟩, by rw [hput_s]; decide⟩, rfl⟩
  · refine w_aloadn f139_0 rfl (by omega) ?_
    refine w_getR f139_1 (by assumption) rfl (by omega) ?_
    refine w_getI f139_4 (by decide) (by assumption) (by (try simp only [hput, hcopy, Nat.reduceEqDiff, Nat.add_left_cancel_iff, Nat.add_right_cancel_iff, Nat.left_eq_add, Nat.add_eq_left, Nat.right_eq_add, Nat.add_eq_right, Nat.reduceAdd, Nat.add_zero, Nat.succ_ne_self, Nat.one_ne_zero, Nat.zero_ne_one, eq_self, and_self, and_true, true_and, and_false, false_and, if_true, if_false, reduceIte, Int.reduceToNat, Int.toNat_natCast]); exact rfl) ?_
    refine w_if_ne (t := 43) f139_7 (by decide) (fun c1 => ?_) (fun c1 => absurd (by assumption) z)
    refine w_ret f139_43 rfl ?_
    exact ⟨h, ⟨Ot.rf, hS z, z⟩, rfl⟩
end A

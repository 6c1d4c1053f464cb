/-! the class: verdicts, coverage, the trace -/
section A
variable {K : List AKd} {h : Nat → Nat → Int} {R : R4} {σ : Sg} {r d : Nat} {w : Nat → Int} {b : Nat → Int} {n N : Int}
theorem Rel.st {h1 g : Nat → Nat → Int} (q : Rel r d N h g) (e : Ot 140 3 h h1) : Rel r d N h1 g := q.q (fun x y z => e x y (by omega)) (fun z => (q.1.2.2.2.2.2 (by rw [← e 143 0 (by decide)]; exact z)).fr (fun x y z => e x y (by omega)))
def StQ (r d : Nat) (R : R4) (h : Nat → Nat → Int) (v : AV) : Out → Prop := fun o => ∃ h1, Ot 140 3 h h1 ∧ o = (.inl v, (KS r d, h1, R))
theorem s97t {i : Int} (hM : RelM r d N h w) (hi : 0 ≤ i ∧ i < w 1) : Rn (ev 97 0 [AR 1, AI i] [] (KS r d, h, R)) (StQ r d R h (AI ((vdt w (hereW w) i).1))) := by
  have r0 := hM.rd
  obtain ⟨⟨hr, h40⟩, ⟨hd, hx, hz⟩, hn, qr, qs, qS⟩ := hM
  have hl := shRl (r := r) (d := d) r0.1
  obtain ⟨l1, n1, n2, n3, l5, l6, a0, a1, a2, a3, a4, a5, a6, a7, a8⟩ := id hl
  have n11 := n1.1
  have n21 := n2.1
  have n31 := n3.1
  obtain ⟨l51, l52⟩ := id l5
  have k1 := @kd_1 r d
  have k8 := @kd_8 r d
  have k9 := @kd_9 r d
  have k10 := @kd_10 r d
  have k11 := @kd_11 r d
  have k12 := @kd_12 r d
  have k16 := @kd_16 r d
  have k17 := @kd_17 r d
  have k18 := @kd_18 r d
  have k19 := @kd_19 r d
  have k140 := @kd_140 r d
  have k143 := @kd_143 r d
  have e0 : h (r + 1) 2 = w 0 := qr.1.1.1
  have e1 : h (r + 14) 2 = w 1 := qr.1.2.1.1
  have e2 : h (r + 27) 2 = w 2 := qr.1.2.2.1
  have e3 : h r 5 = w 3 := qr.2.2.1
  have e4 : h 11 0 = w 4 := qs.2.1.1
  obtain ⟨v0, v1, v2, v3, v4⟩ := hd.1.1
  obtain ⟨hd1, hd2⟩ := hW_d hd.2.1
  refine w_iloadn f97_0 rfl ?_
  refine w_aloadn f97_1 rfl (by omega) ?_
  refine w_getR f97_2 (by assumption) rfl (by omega) ?_
  refine w_getR f97_5 (by assumption) rfl (by omega) ?_
  refine w_getI f97_8 (by decide) (by assumption) (by (try simp only [hput, hcopy, Nat.reduceEqDiff, Nat.add_left_cancel_iff, Nat.add_right_cancel_iff, Nat.left_eq_add, Nat.add_eq_left, Nat.right_eq_add, Nat.add_eq_right, Nat.reduceAdd, Nat.add_zero, Nat.succ_ne_self, Nat.one_ne_zero, Nat.zero_ne_one, eq_self, and_self, and_true, true_and, and_false, false_and, if_true, if_false, reduceIte, Int.reduceToNat, Int.toNat_natCast, e0, e1, e2, e3, e4]); exact rfl) ?_
  refine w_xS f97_11 (Or.inl rfl) (Nat.le_of_ble_eq_true rfl) rfl rfl ⟨Nat.le_of_ble_eq_true rfl, rfl, Nat.le_of_ble_eq_true rfl⟩ (en132 _ _) rfl rfl (s132) (pv132 _ _) (fun c1 => ?_) (fun c1 => ?_)
  · refine w_aloadn f97_14 rfl (by omega) ?_
    refine w_getR f97_15 (by assumption) rfl (by omega) ?_
    refine w_aloadn f97_18 rfl (by omega) ?_
    refine w_getR f97_19 (by assumption) rfl (by omega) ?_
    refine w_aloadn f97_22 rfl (by omega) ?_
    refine w_getR f97_23 (by assumption) rfl (by omega) ?_
    refine w_getR f97_26 (by assumption) rfl (by omega) ?_
    refine w_aloadn f97_29 rfl (by omega) ?_
    refine w_getR f97_30 (by assumption) rfl (by omega) ?_
    refine w_getR f97_33 (by assumption) rfl (by omega) ?_
    refine w_iloadn f97_36 rfl ?_
    refine w_qV f97_37 (Or.inl rfl) rfl (by omega) (okd_of (by assumption)) rfl ⟨Nat.le_of_ble_eq_true rfl, rfl, Nat.le_of_ble_eq_true rfl⟩ (en69 _ _ _ _ _) (s69 (i := 11) (j := 9) (e := i) sh140 hl sh8.2.2.1 sh8.2.1 (by decide) (by omega) (by decide) (by decide) (by omega) (by omega) (by omega) hd.1 qr.2.2 qs.2.1 qs.1 (hereW_r hd.2.1)) (fun o9 ho9 => ?_)
    obtain ⟨h2, p, rfl⟩ := ho9
    refine w_bok (pv69 _ _) ?_
    refine w_aloadn f97_40 rfl (by omega) ?_
    refine w_getR f97_41 (by assumption) rfl (by omega) ?_
    refine w_getI f97_44 (by decide) (by assumption) (by exact p.2.1) ?_
    refine w_iret f97_47 rfl ?_
    exact ⟨h2, p.1, rfl⟩
  · exact absurd hi (by assumption)
theorem s97f {i : Int} (hM : RelM r d N h w) (hi : ¬ (0 ≤ i ∧ i < w 1)) : ev 97 0 [AR 1, AI i] [] (KS r d, h, R) = some (.inr 0, bump (KS r d, h, R)) := by
  refine Rn.eq ?_
  have r0 := hM.rd
  obtain ⟨⟨hr, h40⟩, ⟨hd, hx, hz⟩, hn, qr, qs, qS⟩ := hM
  have hl := shRl (r := r) (d := d) r0.1
  obtain ⟨l1, n1, n2, n3, l5, l6, a0, a1, a2, a3, a4, a5, a6, a7, a8⟩ := id hl
  have n11 := n1.1
  have n21 := n2.1
  have n31 := n3.1
  obtain ⟨l51, l52⟩ := id l5
  have k1 := @kd_1 r d
  have k8 := @kd_8 r d
  have k9 := @kd_9 r d
  have k10 := @kd_10 r d
  have k11 := @kd_11 r d
  have k12 := @kd_12 r d
  have k16 := @kd_16 r d
  have k17 := @kd_17 r d
  have k18 := @kd_18 r d
  have k19 := @kd_19 r d
  have k140 := @kd_140 r d
  have k143 := @kd_143 r d
  have e0 : h (r + 1) 2 = w 0 := qr.1.1.1
  have e1 : h (r + 14) 2 = w 1 := qr.1.2.1.1
  have e2 : h (r + 27) 2 = w 2 := qr.1.2.2.1
  have e3 : h r 5 = w 3 := qr.2.2.1
  have e4 : h 11 0 = w 4 := qs.2.1.1
  obtain ⟨v0, v1, v2, v3, v4⟩ := hd.1.1
  obtain ⟨hd1, hd2⟩ := hW_d hd.2.1
  refine w_iloadn f97_0 rfl ?_
  refine w_aloadn f97_1 rfl (by omega) ?_
  refine w_getR f97_2 (by assumption) rfl (by omega) ?_
  refine w_getR f97_5 (by assumption) rfl (by omega) ?_
  refine w_getI f97_8 (by decide) (by assumption) (by (try simp only [hput, hcopy, Nat.reduceEqDiff, Nat.add_left_cancel_iff, Nat.add_right_cancel_iff, Nat.left_eq_add, Nat.add_eq_left, Nat.right_eq_add, Nat.add_eq_right, Nat.reduceAdd, Nat.add_zero, Nat.succ_ne_self, Nat.one_ne_zero, Nat.zero_ne_one, eq_self, and_self, and_true, true_and, and_false, false_and, if_true, if_false, reduceIte, Int.reduceToNat, Int.toNat_natCast, e0, e1, e2, e3, e4]); exact rfl) ?_
  refine w_xS f97_11 (Or.inl rfl) (Nat.le_of_ble_eq_true rfl) rfl rfl ⟨Nat.le_of_ble_eq_true rfl, rfl, Nat.le_of_ble_eq_true rfl⟩ (en132 _ _) rfl rfl (s132) (pv132 _ _) (fun c1 => ?_) (fun c1 => ?_)
  · exact absurd (by assumption) hi
  · rfl
theorem s98t {i : Int} (hM : RelM r d N h w) (hi : 0 ≤ i ∧ i < w 1) : Rn (ev 98 0 [AR 1, AI i] [] (KS r d, h, R)) (StQ r d R h (AI ((vdt w (hereW w) i).2.1))) := by
  have r0 := hM.rd
  obtain ⟨⟨hr, h40⟩, ⟨hd, hx, hz⟩, hn, qr, qs, qS⟩ := hM
  have hl := shRl (r := r) (d := d) r0.1
  obtain ⟨l1, n1, n2, n3, l5, l6, a0, a1, a2, a3, a4, a5, a6, a7, a8⟩ := id hl
  have n11 := n1.1
  have n21 := n2.1
  have n31 := n3.1
  obtain ⟨l51, l52⟩ := id l5
  have k1 := @kd_1 r d
  have k8 := @kd_8 r d
  have k9 := @kd_9 r d
  have k10 := @kd_10 r d
  have k11 := @kd_11 r d
  have k12 := @kd_12 r d
  have k16 := @kd_16 r d
  have k17 := @kd_17 r d
  have k18 := @kd_18 r d
  have k19 := @kd_19 r d
  have k140 := @kd_140 r d
  have k143 := @kd_143 r d
  have e0 : h (r + 1) 2 = w 0 := qr.1.1.1
  have e1 : h (r + 14) 2 = w 1 := qr.1.2.1.1
  have e2 : h (r + 27) 2 = w 2 := qr.1.2.2.1
  have e3 : h r 5 = w 3 := qr.2.2.1
  have e4 : h 11 0 = w 4 := qs.2.1.1
  obtain ⟨v0, v1, v2, v3, v4⟩ := hd.1.1
  obtain ⟨hd1, hd2⟩ := hW_d hd.2.1
  refine w_iloadn f98_0 rfl ?_
  refine w_aloadn f98_1 rfl (by omega) ?_
  refine w_getR f98_2 (by assumption) rfl (by omega) ?_
  refine w_getR f98_5 (by assumption) rfl (by omega) ?_
  refine w_getI f98_8 (by decide) (by assumption) (by (try simp only [hput, hcopy, Nat.reduceEqDiff, Nat.add_left_cancel_iff, Nat.add_right_cancel_iff, Nat.left_eq_add, Nat.add_eq_left, Nat.right_eq_add, Nat.add_eq_right, Nat.reduceAdd, Nat.add_zero, Nat.succ_ne_self, Nat.one_ne_zero, Nat.zero_ne_one, eq_self, and_self, and_true, true_and, and_false, false_and, if_true, if_false, reduceIte, Int.reduceToNat, Int.toNat_natCast, e0, e1, e2, e3, e4]); exact rfl) ?_
  refine w_xS f98_11 (Or.inl rfl) (Nat.le_of_ble_eq_true rfl) rfl rfl ⟨Nat.le_of_ble_eq_true rfl, rfl, Nat.le_of_ble_eq_true rfl⟩ (en132 _ _) rfl rfl (s132) (pv132 _ _) (fun c1 => ?_) (fun c1 => ?_)
  · refine w_aloadn f98_14 rfl (by omega) ?_
    refine w_getR f98_15 (by assumption) rfl (by omega) ?_
    refine w_aloadn f98_18 rfl (by omega) ?_
    refine w_getR f98_19 (by assumption) rfl (by omega) ?_
    refine w_aloadn f98_22 rfl (by omega) ?_
    refine w_getR f98_23 (by assumption) rfl (by omega) ?_
    refine w_getR f98_26 (by assumption) rfl (by omega) ?_
    refine w_aloadn f98_29 rfl (by omega) ?_
    refine w_getR f98_30 (by assumption) rfl (by omega) ?_
    refine w_getR f98_33 (by assumption) rfl (by omega) ?_
    refine w_iloadn f98_36 rfl ?_
    refine w_qV f98_37 (Or.inl rfl) rfl (by omega) (okd_of (by assumption)) rfl ⟨Nat.le_of_ble_eq_true rfl, rfl, Nat.le_of_ble_eq_true rfl⟩ (en69 _ _ _ _ _) (s69 (i := 11) (j := 9) (e := i) sh140 hl sh8.2.2.1 sh8.2.1 (by decide) (by omega) (by decide) (by decide) (by omega) (by omega) (by omega) hd.1 qr.2.2 qs.2.1 qs.1 (hereW_r hd.2.1)) (fun o9 ho9 => ?_)
    obtain ⟨h2, p, rfl⟩ := ho9
    refine w_bok (pv69 _ _) ?_
    refine w_aloadn f98_40 rfl (by omega) ?_
    refine w_getR f98_41 (by assumption) rfl (by omega) ?_
    refine w_getI f98_44 (by decide) (by assumption) (by exact p.2.2.1) ?_
    refine w_iret f98_47 rfl ?_
    exact ⟨h2, p.1, rfl⟩
  · exact absurd hi (by assumption)
theorem s98f {i : Int} (hM : RelM r d N h w) (hi : ¬ (0 ≤ i ∧ i < w 1)) : ev 98 0 [AR 1, AI i] [] (KS r d, h, R) = some (.inr 0, bump (KS r d, h, R)) := by
  refine Rn.eq ?_
  have r0 := hM.rd
  obtain ⟨⟨hr, h40⟩, ⟨hd, hx, hz⟩, hn, qr, qs, qS⟩ := hM
  have hl := shRl (r := r) (d := d) r0.1
  obtain ⟨l1, n1, n2, n3, l5, l6, a0, a1, a2, a3, a4, a5, a6, a7, a8⟩ := id hl
  have n11 := n1.1
  have n21 := n2.1
  have n31 := n3.1
  obtain ⟨l51, l52⟩ := id l5
  have k1 := @kd_1 r d
  have k8 := @kd_8 r d
  have k9 := @kd_9 r d
  have k10 := @kd_10 r d
  have k11 := @kd_11 r d
  have k12 := @kd_12 r d
  have k16 := @kd_16 r d
  have k17 := @kd_17 r d
  have k18 := @kd_18 r d
  have k19 := @kd_19 r d
  have k140 := @kd_140 r d
  have k143 := @kd_143 r d
  have e0 : h (r + 1) 2 = w 0 := qr.1.1.1
  have e1 : h (r + 14) 2 = w 1 := qr.1.2.1.1
  have e2 : h (r + 27) 2 = w 2 := qr.1.2.2.1
  have e3 : h r 5 = w 3 := qr.2.2.1
  have e4 : h 11 0 = w 4 := qs.2.1.1
  obtain ⟨v0, v1, v2, v3, v4⟩ := hd.1.1
  obtain ⟨hd1, hd2⟩ := hW_d hd.2.1
  refine w_iloadn f98_0 rfl ?_
  refine w_aloadn f98_1 rfl (by omega) ?_
  refine w_getR f98_2 (by assumption) rfl (by omega) ?_
  refine w_getR f98_5 (by assumption) rfl (by omega) ?_
  refine w_getI f98_8 (by decide) (by assumption) (by (try simp only [hput, hcopy, Nat.reduceEqDiff, Nat.add_left_cancel_iff, Nat.add_right_cancel_iff, Nat.left_eq_add, Nat.add_eq_left, Nat.right_eq_add, Nat.add_eq_right, Nat.reduceAdd, Nat.add_zero, Nat.succ_ne_self, Nat.one_ne_zero, Nat.zero_ne_one, eq_self, and_self, and_true, true_and, and_false, false_and, if_true, if_false, reduceIte, Int.reduceToNat, Int.toNat_natCast, e0, e1, e2, e3, e4]); exact rfl) ?_
  refine w_xS f98_11 (Or.inl rfl) (Nat.le_of_ble_eq_true rfl) rfl rfl ⟨Nat.le_of_ble_eq_true rfl, rfl, Nat.le_of_ble_eq_true rfl⟩ (en132 _ _) rfl rfl (s132) (pv132 _ _) (fun c1 => ?_) (fun c1 => ?_)
  · exact absurd (by assumption) hi
  · rfl
theorem s99t {i : Int} (hM : RelM r d N h w) (hi : 0 ≤ i ∧ i < w 1) : Rn (ev 99 0 [AR 1, AI i] [] (KS r d, h, R)) (StQ r d R h (AI (if (vdt w (hereW w) i).1 = 4 then fb w (vdt w (hereW w) i).2.2 else -1))) := by
  have r0 := hM.rd
  obtain ⟨⟨hr, h40⟩, ⟨hd, hx, hz⟩, hn, qr, qs, qS⟩ := hM
  have hl := shRl (r := r) (d := d) r0.1
  obtain ⟨l1, n1, n2, n3, l5, l6, a0, a1, a2, a3, a4, a5, a6, a7, a8⟩ := id hl
  have n11 := n1.1
  have n21 := n2.1
  have n31 := n3.1
  obtain ⟨l51, l52⟩ := id l5
  have k1 := @kd_1 r d
  have k8 := @kd_8 r d
  have k9 := @kd_9 r d
  have k10 := @kd_10 r d
  have k11 := @kd_11 r d
  have k12 := @kd_12 r d
  have k16 := @kd_16 r d
  have k17 := @kd_17 r d
  have k18 := @kd_18 r d
  have k19 := @kd_19 r d
  have k140 := @kd_140 r d
  have k143 := @kd_143 r d
  have e0 : h (r + 1) 2 = w 0 := qr.1.1.1
  have e1 : h (r + 14) 2 = w 1 := qr.1.2.1.1
  have e2 : h (r + 27) 2 = w 2 := qr.1.2.2.1
  have e3 : h r 5 = w 3 := qr.2.2.1
  have e4 : h 11 0 = w 4 := qs.2.1.1
  obtain ⟨v0, v1, v2, v3, v4⟩ := hd.1.1
  obtain ⟨hd1, hd2⟩ := hW_d hd.2.1
  refine w_iloadn f99_0 rfl ?_
  refine w_aloadn f99_1 rfl (by omega) ?_
  refine w_getR f99_2 (by assumption) rfl (by omega) ?_
  refine w_getR f99_5 (by assumption) rfl (by omega) ?_
  refine w_getI f99_8 (by decide) (by assumption) (by (try simp only [hput, hcopy, Nat.reduceEqDiff, Nat.add_left_cancel_iff, Nat.add_right_cancel_iff, Nat.left_eq_add, Nat.add_eq_left, Nat.right_eq_add, Nat.add_eq_right, Nat.reduceAdd, Nat.add_zero, Nat.succ_ne_self, Nat.one_ne_zero, Nat.zero_ne_one, eq_self, and_self, and_true, true_and, and_false, false_and, if_true, if_false, reduceIte, Int.reduceToNat, Int.toNat_natCast, e0, e1, e2, e3, e4]); exact rfl) ?_
  refine w_xS f99_11 (Or.inl rfl) (Nat.le_of_ble_eq_true rfl) rfl rfl ⟨Nat.le_of_ble_eq_true rfl, rfl, Nat.le_of_ble_eq_true rfl⟩ (en132 _ _) rfl rfl (s132) (pv132 _ _) (fun c1 => ?_) (fun c1 => ?_)
  · refine w_aloadn f99_14 rfl (by omega) ?_
    refine w_getR f99_15 (by assumption) rfl (by omega) ?_
    refine w_aloadn f99_18 rfl (by omega) ?_
    refine w_getR f99_19 (by assumption) rfl (by omega) ?_
    refine w_aloadn f99_22 rfl (by omega) ?_
    refine w_getR f99_23 (by assumption) rfl (by omega) ?_
    refine w_getR f99_26 (by assumption) rfl (by omega) ?_
    refine w_aloadn f99_29 rfl (by omega) ?_
    refine w_getR f99_30 (by assumption) rfl (by omega) ?_
    refine w_getR f99_33 (by assumption) rfl (by omega) ?_
    refine w_iloadn f99_36 rfl ?_
    refine w_qV f99_37 (Or.inl rfl) rfl (by omega) (okd_of (by assumption)) rfl ⟨Nat.le_of_ble_eq_true rfl, rfl, Nat.le_of_ble_eq_true rfl⟩ (en69 _ _ _ _ _) (s69 (i := 11) (j := 9) (e := i) sh140 hl sh8.2.2.1 sh8.2.1 (by decide) (by omega) (by decide) (by decide) (by omega) (by omega) (by omega) hd.1 qr.2.2 qs.2.1 qs.1 (hereW_r hd.2.1)) (fun o9 ho9 => ?_)
    obtain ⟨h2, p, rfl⟩ := ho9
    refine w_bok (pv69 _ _) ?_
    refine w_aloadn f99_40 rfl (by omega) ?_
    refine w_getR f99_41 (by assumption) rfl (by omega) ?_
    refine w_getI f99_44 (by decide) (by assumption) (by exact p.2.2.2.1) ?_
    refine w_iret f99_47 rfl ?_
    exact ⟨h2, p.1, rfl⟩
  · exact absurd hi (by assumption)
theorem s99f {i : Int} (hM : RelM r d N h w) (hi : ¬ (0 ≤ i ∧ i < w 1)) : ev 99 0 [AR 1, AI i] [] (KS r d, h, R) = some (.inr 0, bump (KS r d, h, R)) := by
  refine Rn.eq ?_
  have r0 := hM.rd
  obtain ⟨⟨hr, h40⟩, ⟨hd, hx, hz⟩, hn, qr, qs, qS⟩ := hM
  have hl := shRl (r := r) (d := d) r0.1
  obtain ⟨l1, n1, n2, n3, l5, l6, a0, a1, a2, a3, a4, a5, a6, a7, a8⟩ := id hl
  have n11 := n1.1
  have n21 := n2.1
  have n31 := n3.1
  obtain ⟨l51, l52⟩ := id l5
  have k1 := @kd_1 r d
  have k8 := @kd_8 r d
  have k9 := @kd_9 r d
  have k10 := @kd_10 r d
  have k11 := @kd_11 r d
  have k12 := @kd_12 r d
  have k16 := @kd_16 r d
  have k17 := @kd_17 r d
  have k18 := @kd_18 r d
  have k19 := @kd_19 r d
  have k140 := @kd_140 r d
  have k143 := @kd_143 r d
  have e0 : h (r + 1) 2 = w 0 := qr.1.1.1
  have e1 : h (r + 14) 2 = w 1 := qr.1.2.1.1
  have e2 : h (r + 27) 2 = w 2 := qr.1.2.2.1
  have e3 : h r 5 = w 3 := qr.2.2.1
  have e4 : h 11 0 = w 4 := qs.2.1.1
  obtain ⟨v0, v1, v2, v3, v4⟩ := hd.1.1
  obtain ⟨hd1, hd2⟩ := hW_d hd.2.1
  refine w_iloadn f99_0 rfl ?_
  refine w_aloadn f99_1 rfl (by omega) ?_
  refine w_getR f99_2 (by assumption) rfl (by omega) ?_
  refine w_getR f99_5 (by assumption) rfl (by omega) ?_
  refine w_getI f99_8 (by decide) (by assumption) (by (try simp only [hput, hcopy, Nat.reduceEqDiff, Nat.add_left_cancel_iff, Nat.add_right_cancel_iff, Nat.left_eq_add, Nat.add_eq_left, Nat.right_eq_add, Nat.add_eq_right, Nat.reduceAdd, Nat.add_zero, Nat.succ_ne_self, Nat.one_ne_zero, Nat.zero_ne_one, eq_self, and_self, and_true, true_and, and_false, false_and, if_true, if_false, reduceIte, Int.reduceToNat, Int.toNat_natCast, e0, e1, e2, e3, e4]); exact rfl) ?_
  refine w_xS f99_11 (Or.inl rfl) (Nat.le_of_ble_eq_true rfl) rfl rfl ⟨Nat.le_of_ble_eq_true rfl, rfl, Nat.le_of_ble_eq_true rfl⟩ (en132 _ _) rfl rfl (s132) (pv132 _ _) (fun c1 => ?_) (fun c1 => ?_)
  · exact absurd (by assumption) hi
  · rfl
theorem l100 {h0 : Nat → Nat → Int} (hM : RelM r d N h0 w) : ∀ (m : Nat) (e : Int) (h : Nat → Nat → Int), 0 ≤ e → e + m = w 1 → (∀ e1, 0 ≤ e1 → e1 < e → (vdt w (hereW w) e1).1 ≠ 0) → Ot 140 3 h0 h → Rn (ev 100 2 [AR 1, AI e] [] (KS r d, h, R)) (StQ r d R h0 (AI (b2i (stk w (hereW w))))) := by
  intro m
  have r0 := hM.rd
  obtain ⟨⟨hr, h40⟩, ⟨hd, hx, hz⟩, hn, qr, qs, qS⟩ := hM
  have hl := shRl (r := r) (d := d) r0.1
  obtain ⟨l1, n1, n2, n3, l5, l6, a0, a1, a2, a3, a4, a5, a6, a7, a8⟩ := id hl
  have n11 := n1.1
  have n21 := n2.1
  have n31 := n3.1
  obtain ⟨l51, l52⟩ := id l5
  have k1 := @kd_1 r d
  have k8 := @kd_8 r d
  have k9 := @kd_9 r d
  have k10 := @kd_10 r d
  have k11 := @kd_11 r d
  have k12 := @kd_12 r d
  have k16 := @kd_16 r d
  have k17 := @kd_17 r d
  have k18 := @kd_18 r d
  have k19 := @kd_19 r d
  have k140 := @kd_140 r d
  have k143 := @kd_143 r d
  have e0 : h0 (r + 1) 2 = w 0 := qr.1.1.1
  have e1 : h0 (r + 14) 2 = w 1 := qr.1.2.1.1
  have e2 : h0 (r + 27) 2 = w 2 := qr.1.2.2.1
  have e3 : h0 r 5 = w 3 := qr.2.2.1
  have e4 : h0 11 0 = w 4 := qs.2.1.1
  obtain ⟨v0, v1, v2, v3, v4⟩ := hd.1.1
  obtain ⟨hd1, hd2⟩ := hW_d hd.2.1
  induction m with
  | zero =>
    intro e h h1 h2 h3 ho
    have f1 : h (r + 14) 2 = w 1 := (ho _ _ (by omega)).trans e1
    refine w_iloadn f100_2 rfl ?_
    refine w_aloadn f100_3 rfl (by omega) ?_
    refine w_getR f100_4 (by assumption) rfl (by omega) ?_
    refine w_getR f100_7 (by assumption) rfl (by omega) ?_
    refine w_getI f100_10 (by decide) (by assumption) (by (try simp only [hput, hcopy, Nat.reduceEqDiff, Nat.add_left_cancel_iff, Nat.add_right_cancel_iff, Nat.left_eq_add, Nat.add_eq_left, Nat.right_eq_add, Nat.add_eq_right, Nat.reduceAdd, Nat.add_zero, Nat.succ_ne_self, Nat.one_ne_zero, Nat.zero_ne_one, eq_self, and_self, and_true, true_and, and_false, false_and, if_true, if_false, reduceIte, Int.reduceToNat, Int.toNat_natCast, f1]); exact rfl) ?_
    refine w_ic_ge (t := 60) f100_13 (by decide) (fun c1 => ?_) (fun c1 => by omega)
    refine w_iconst (v := 1) f100_60 (by decide) ?_
    refine w_zret f100_61 rfl (by decide) ?_
    exact ⟨h, ho, ob_t (fun e9 g1 g2 => h3 e9 g1 (by omega))⟩
  | succ m ih =>
    intro e h h1 h2 h3 ho
    have f1 : h (r + 14) 2 = w 1 := (ho _ _ (by omega)).trans e1
    have t1 := qr.2.2.ot ho (by omega)
    have t2 := qs.2.1.ot ho (by omega)
    have t3 := qs.1.ot ho (by omega)
    refine w_iloadn f100_2 rfl ?_
    refine w_aloadn f100_3 rfl (by omega) ?_
    refine w_getR f100_4 (by assumption) rfl (by omega) ?_
    refine w_getR f100_7 (by assumption) rfl (by omega) ?_
    refine w_getI f100_10 (by decide) (by assumption) (by (try simp only [hput, hcopy, Nat.reduceEqDiff, Nat.add_left_cancel_iff, Nat.add_right_cancel_iff, Nat.left_eq_add, Nat.add_eq_left, Nat.right_eq_add, Nat.add_eq_right, Nat.reduceAdd, Nat.add_zero, Nat.succ_ne_self, Nat.one_ne_zero, Nat.zero_ne_one, eq_self, and_self, and_true, true_and, and_false, false_and, if_true, if_false, reduceIte, Int.reduceToNat, Int.toNat_natCast, f1]); exact rfl) ?_
    refine w_ic_ge (t := 60) f100_13 (by decide) (fun c1 => by omega) (fun c1 => ?_)
    refine w_aloadn f100_16 rfl (by omega) ?_
    refine w_getR f100_17 (by assumption) rfl (by omega) ?_
    refine w_aloadn f100_20 rfl (by omega) ?_
    refine w_getR f100_21 (by assumption) rfl (by omega) ?_
    refine w_aloadn f100_24 rfl (by omega) ?_
    refine w_getR f100_25 (by assumption) rfl (by omega) ?_
    refine w_getR f100_28 (by assumption) rfl (by omega) ?_
    refine w_aloadn f100_31 rfl (by omega) ?_
    refine w_getR f100_32 (by assumption) rfl (by omega) ?_
    refine w_getR f100_35 (by assumption) rfl (by omega) ?_
    refine w_iloadn f100_38 rfl ?_
    refine w_qV f100_39 (Or.inl rfl) rfl (by omega) (okd_of (by assumption)) rfl ⟨Nat.le_of_ble_eq_true rfl, rfl, Nat.le_of_ble_eq_true rfl⟩ (en69 _ _ _ _ _) (s69 (i := 11) (j := 9) (e := e) sh140 hl sh8.2.2.1 sh8.2.1 (by decide) (by omega) (by decide) (by decide) (by omega) (by omega) (by omega) hd.1 t1 t2 t3 (hereW_r hd.2.1)) (fun o9 ho9 => ?_)
    obtain ⟨h2, p, rfl⟩ := ho9
    refine w_bok (pv69 _ _) ?_
    refine w_aloadn f100_42 rfl (by omega) ?_
    refine w_getR f100_43 (by assumption) rfl (by omega) ?_
    refine w_getI f100_46 (by decide) (by assumption) (by exact p.2.1) ?_
    refine w_if_ne (t := 54) f100_49 (by decide) (fun c2 => ?_) (fun c2 => ?_)
    · refine w_iincn f100_54 rfl (by omega) (sto_2_1 rfl) ?_
      refine w_goto (t := 2) f100_57 (by decide) ?_
      exact ih _ _ (by omega) (by omega) (fun e9 g1 g2 => by by_cases z : e9 = e; (rw [z]; assumption); exact h3 e9 g1 (by omega)) (ho.tr p.1)
    · refine w_iconst (v := 0) f100_52 (by decide) ?_
      refine w_zret f100_53 rfl (by decide) ?_
      exact ⟨h2, ho.tr p.1, ob_f (fun z => z e h1 (by omega) (by assumption))⟩
theorem s100 (hM : RelM r d N h w) : Rn (ev 100 0 [AR 1, AU] [] (KS r d, h, R)) (StQ r d R h (AI (b2i (stk w (hereW w))))) := by
  have z := l100 (R := R) hM (w 1).toNat 0 h (by omega) (by have := hM.2.1.1.1.1.2.1; omega) (fun e1 g1 g2 => by omega) Ot.rf
  refine w_iconst (v := 0) f100_0 (by decide) ?_
  refine w_istoren f100_1 (Nat.le_of_ble_eq_true rfl) (sto_2_1 rfl) ?_
  exact z
theorem s105t {i : Int} (hM : RelM r d N h w) (hi : 1 ≤ i ∧ i ≤ 4) : ev 105 0 [AR 1, AI i] [] (KS r d, h, R) = some (.inl (AI (w (12 + i).toNat)), (KS r d, h, R)) := by
  refine Rn.eq ?_
  have r0 := hM.rd
  obtain ⟨⟨hr, h40⟩, ⟨hd, hx, hz⟩, hn, qr, qs, qS⟩ := hM
  have hl := shRl (r := r) (d := d) r0.1
  obtain ⟨l1, n1, n2, n3, l5, l6, a0, a1, a2, a3, a4, a5, a6, a7, a8⟩ := id hl
  have n11 := n1.1
  have n21 := n2.1
  have n31 := n3.1
  obtain ⟨l51, l52⟩ := id l5
  have k1 := @kd_1 r d
  have k8 := @kd_8 r d
  have k9 := @kd_9 r d
  have k10 := @kd_10 r d
  have k11 := @kd_11 r d
  have k12 := @kd_12 r d
  have k16 := @kd_16 r d
  have k17 := @kd_17 r d
  have k18 := @kd_18 r d
  have k19 := @kd_19 r d
  have k140 := @kd_140 r d
  have k143 := @kd_143 r d
  have e0 : h (r + 1) 2 = w 0 := qr.1.1.1
  have e1 : h (r + 14) 2 = w 1 := qr.1.2.1.1
  have e2 : h (r + 27) 2 = w 2 := qr.1.2.2.1
  have e3 : h r 5 = w 3 := qr.2.2.1
  have e4 : h 11 0 = w 4 := qs.2.1.1
  obtain ⟨v0, v1, v2, v3, v4⟩ := hd.1.1
  obtain ⟨hd1, hd2⟩ := hW_d hd.2.1
  have z : h 19 i.toNat = w (12 + i).toNat := (qs.2.2.2.2.2.1.2 i.toNat (by omega) (by omega)).trans (congrArg w (by omega))
  refine w_iloadn f105_0 rfl ?_
  refine w_if_le (t := 13) f105_1 (by decide) (fun c1 => by omega) (fun c1 => ?_)
  refine w_iloadn f105_4 rfl ?_
  refine w_iconst (v := 5) f105_5 (by decide) ?_
  refine w_ic_ge (t := 13) f105_6 (by decide) (fun c2 => by omega) (fun c2 => ?_)
  refine w_iconst (v := 1) f105_9 (by decide) ?_
  refine w_goto (t := 14) f105_10 (by decide) ?_
  refine w_xS f105_14 (Or.inl rfl) (Nat.le_of_ble_eq_true rfl) rfl rfl ⟨Nat.le_of_ble_eq_true rfl, rfl, Nat.le_of_ble_eq_true rfl⟩ (en133 _) rfl rfl (s133) (pv133 _ _) (fun c3 => ?_) (fun c3 => ?_)
  · refine w_aloadn f105_17 rfl (by omega) ?_
    refine w_getR f105_18 (by assumption) rfl (by omega) ?_
    refine w_getR f105_21 (by assumption) rfl (by omega) ?_
    refine w_getR f105_24 (by assumption) rfl (by omega) ?_
    refine w_iloadn f105_27 rfl ?_
    refine w_iald f105_28 (by assumption) (by omega) (by exact z) ?_
    refine w_iret f105_29 rfl ?_
    rfl
  · exact absurd (show (1 : Int) ≠ 0 by decide) (by assumption)
theorem s105f {i : Int} (hi : ¬ (1 ≤ i ∧ i ≤ 4)) : ev 105 0 [AR 1, AI i] [] (KS r d, h, R) = some (.inr 1, bump (KS r d, h, R)) := by
  refine Rn.eq ?_
  have k1 := @kd_1 r d
  refine w_iloadn f105_0 rfl ?_
  refine w_if_le (t := 13) f105_1 (by decide) (fun c1 => ?_) (fun c1 => ?_)
  · refine w_iconst (v := 0) f105_13 (by decide) ?_
    refine w_xS f105_14 (Or.inl rfl) (Nat.le_of_ble_eq_true rfl) rfl rfl ⟨Nat.le_of_ble_eq_true rfl, rfl, Nat.le_of_ble_eq_true rfl⟩ (en133 _) rfl rfl (s133) (pv133 _ _) (fun c2 => ?_) (fun c2 => ?_)
    · exfalso; omega
    · first | rfl | (exfalso; omega)
  · refine w_iloadn f105_4 rfl ?_
    refine w_iconst (v := 5) f105_5 (by decide) ?_
    refine w_ic_ge (t := 13) f105_6 (by decide) (fun c3 => ?_) (fun c3 => ?_)
    · refine w_iconst (v := 0) f105_13 (by decide) ?_
      refine w_xS f105_14 (Or.inl rfl) (Nat.le_of_ble_eq_true rfl) rfl rfl ⟨Nat.le_of_ble_eq_true rfl, rfl, Nat.le_of_ble_eq_true rfl⟩ (en133 _) rfl rfl (s133) (pv133 _ _) (fun c4 => ?_) (fun c4 => ?_)
      · exfalso; omega
      · first | rfl | (exfalso; omega)
    · refine w_iconst (v := 1) f105_9 (by decide) ?_
      refine w_goto (t := 14) f105_10 (by decide) ?_
      refine w_xS f105_14 (Or.inl rfl) (Nat.le_of_ble_eq_true rfl) rfl rfl ⟨Nat.le_of_ble_eq_true rfl, rfl, Nat.le_of_ble_eq_true rfl⟩ (en133 _) rfl rfl (s133) (pv133 _ _) (fun c5 => ?_) (fun c5 => ?_)
      · exfalso; omega
      · first | rfl | (exfalso; omega)
theorem cnG_ag {f g : Nat → Int} {x y : Int} : ∀ (m : Nat) (k a : Int), (∀ i, k ≤ i → i < k + m → f (x + i).toNat = g (y + i).toNat) → cnG f x m k a = cnG g y m k a
  | 0, _, _, _ => rfl
  | m + 1, k, a, h => by
    simp only [cnG]
    rw [h k (by omega) (by omega), cnG_ag m (k + 1) _ (fun i h1 h2 => h i (by omega) (by omega))]
theorem smG_ag {f g : Nat → Int} {x y : Int} : ∀ (m : Nat) (k a : Int), (∀ i, k ≤ i → i < k + m → f (x + i).toNat = g (y + i).toNat) → smG f x m k a = smG g y m k a
  | 0, _, _, _ => rfl
  | m + 1, k, a, h => by
    simp only [smG]
    rw [h k (by omega) (by omega), smG_ag m (k + 1) _ (fun i h1 h2 => h i (by omega) (by omega))]
theorem s106 (hM : RelM r d N h w) : ev 106 0 [AR 1, AU] [] (KS r d, h, R) = some (.inl (AF (covW w)), (KS r d, h, R)) := by
  refine Rn.eq ?_
  have r0 := hM.rd
  obtain ⟨⟨hr, h40⟩, ⟨hd, hx, hz⟩, hn, qr, qs, qS⟩ := hM
  have hl := shRl (r := r) (d := d) r0.1
  obtain ⟨l1, n1, n2, n3, l5, l6, a0, a1, a2, a3, a4, a5, a6, a7, a8⟩ := id hl
  have n11 := n1.1
  have n21 := n2.1
  have n31 := n3.1
  obtain ⟨l51, l52⟩ := id l5
  have k1 := @kd_1 r d
  have k8 := @kd_8 r d
  have k9 := @kd_9 r d
  have k10 := @kd_10 r d
  have k11 := @kd_11 r d
  have k12 := @kd_12 r d
  have k16 := @kd_16 r d
  have k17 := @kd_17 r d
  have k18 := @kd_18 r d
  have k19 := @kd_19 r d
  have k140 := @kd_140 r d
  have k143 := @kd_143 r d
  have e0 : h (r + 1) 2 = w 0 := qr.1.1.1
  have e1 : h (r + 14) 2 = w 1 := qr.1.2.1.1
  have e2 : h (r + 27) 2 = w 2 := qr.1.2.2.1
  have e3 : h r 5 = w 3 := qr.2.2.1
  have e4 : h 11 0 = w 4 := qs.2.1.1
  obtain ⟨v0, v1, v2, v3, v4⟩ := hd.1.1
  obtain ⟨hd1, hd2⟩ := hW_d hd.2.1
  have z : cnG (h 18) 0 (w 0).toNat 0 0 = cnG w 59 (w 0).toNat 0 0 := cnG_ag _ _ _ (fun i g1 g2 => by rw [show (0 : Int) + i = i by omega]; exact (qs.2.2.2.2.1 i.toNat (by omega)).trans (congrArg w (by omega)))
  have c := cnG_r (w := w) (f := 59) (w 0).toNat 0 0
  have s9' := s9 (h := h) (R := R) (x := w 0) (sh8 (r := r) (d := d)).2.2.2 (by decide) v0
  rw [show h (8 + 8 + 2) = h 18 from rfl, z] at s9'
  refine w_aloadn f106_0 rfl (by omega) ?_
  refine w_getR f106_1 (by assumption) rfl (by omega) ?_
  refine w_getR f106_4 (by assumption) rfl (by omega) ?_
  refine w_getI f106_7 (by decide) (by assumption) (by (try simp only [hput, hcopy, Nat.reduceEqDiff, Nat.add_left_cancel_iff, Nat.add_right_cancel_iff, Nat.left_eq_add, Nat.add_eq_left, Nat.right_eq_add, Nat.add_eq_right, Nat.reduceAdd, Nat.add_zero, Nat.succ_ne_self, Nat.one_ne_zero, Nat.zero_ne_one, eq_self, and_self, and_true, true_and, and_false, false_and, if_true, if_false, reduceIte, Int.reduceToNat, Int.toNat_natCast, e0]); exact rfl) ?_
  refine w_istoren f106_10 (Nat.le_of_ble_eq_true rfl) (sto_2_1 rfl) ?_
  refine w_iloadn f106_11 rfl ?_
  refine w_if_ne (t := 19) f106_12 (by decide) (fun c1 => ?_) (fun c1 => by omega)
  refine w_aloadn f106_19 rfl (by omega) ?_
  refine w_getR f106_20 (by assumption) rfl (by omega) ?_
  refine w_getR f106_23 (by assumption) rfl (by omega) ?_
  refine w_iloadn f106_26 rfl ?_
  refine w_cV f106_27 (Or.inl rfl) rfl (by omega) (okd_of (by assumption)) rfl ⟨Nat.le_of_ble_eq_true rfl, rfl, Nat.le_of_ble_eq_true rfl⟩ (en9 _ _) (s9') (pv9 _ _) ?_
  refine w_i2f f106_30 ?_
  refine w_iloadn f106_31 rfl ?_
  refine w_i2f f106_32 ?_
  refine w_fdiv f106_33 (by exact fd_i (y := w 0) (by omega) (by omega)) ?_
  refine w_fret f106_34 rfl ?_
  rfl
theorem s107 (hM : RelM r d N h w) : ev 107 0 [AR 1, AU] [] (KS r d, h, R) = some (.inl (AF (tcvW w)), (KS r d, h, R)) := by
  refine Rn.eq ?_
  have r0 := hM.rd
  obtain ⟨⟨hr, h40⟩, ⟨hd, hx, hz⟩, hn, qr, qs, qS⟩ := hM
  have hl := shRl (r := r) (d := d) r0.1
  obtain ⟨l1, n1, n2, n3, l5, l6, a0, a1, a2, a3, a4, a5, a6, a7, a8⟩ := id hl
  have n11 := n1.1
  have n21 := n2.1
  have n31 := n3.1
  obtain ⟨l51, l52⟩ := id l5
  have k1 := @kd_1 r d
  have k8 := @kd_8 r d
  have k9 := @kd_9 r d
  have k10 := @kd_10 r d
  have k11 := @kd_11 r d
  have k12 := @kd_12 r d
  have k16 := @kd_16 r d
  have k17 := @kd_17 r d
  have k18 := @kd_18 r d
  have k19 := @kd_19 r d
  have k140 := @kd_140 r d
  have k143 := @kd_143 r d
  have e0 : h (r + 1) 2 = w 0 := qr.1.1.1
  have e1 : h (r + 14) 2 = w 1 := qr.1.2.1.1
  have e2 : h (r + 27) 2 = w 2 := qr.1.2.2.1
  have e3 : h r 5 = w 3 := qr.2.2.1
  have e4 : h 11 0 = w 4 := qs.2.1.1
  obtain ⟨v0, v1, v2, v3, v4⟩ := hd.1.1
  obtain ⟨hd1, hd2⟩ := hW_d hd.2.1
  have z : cnG (h 17) 0 (w 3).toNat 0 0 = cnG w 69 (w 3).toNat 0 0 := cnG_ag _ _ _ (fun i g1 g2 => by rw [show (0 : Int) + i = i by omega]; exact (qs.2.2.2.1 i.toNat (by omega)).trans (congrArg w (by omega)))
  have c := cnG_r (w := w) (f := 69) (w 3).toNat 0 0
  have s10' := s10 (h := h) (R := R) (x := w 3) (sh8 (r := r) (d := d)).2.2.2 (by decide) v3
  rw [show h (8 + 8 + 1) = h 17 from rfl, z] at s10'
  refine w_aloadn f107_0 rfl (by omega) ?_
  refine w_getR f107_1 (by assumption) rfl (by omega) ?_
  refine w_getI f107_4 (by decide) (by assumption) (by (try simp only [hput, hcopy, Nat.reduceEqDiff, Nat.add_left_cancel_iff, Nat.add_right_cancel_iff, Nat.left_eq_add, Nat.add_eq_left, Nat.right_eq_add, Nat.add_eq_right, Nat.reduceAdd, Nat.add_zero, Nat.succ_ne_self, Nat.one_ne_zero, Nat.zero_ne_one, eq_self, and_self, and_true, true_and, and_false, false_and, if_true, if_false, reduceIte, Int.reduceToNat, Int.toNat_natCast, e3]); exact rfl) ?_
  refine w_istoren f107_7 (Nat.le_of_ble_eq_true rfl) (sto_2_1 rfl) ?_
  refine w_iloadn f107_8 rfl ?_
  refine w_if_ne (t := 16) f107_9 (by decide) (fun c1 => ?_) (fun c1 => ?_)
  · refine w_aloadn f107_16 rfl (by omega) ?_
    refine w_getR f107_17 (by assumption) rfl (by omega) ?_
    refine w_getR f107_20 (by assumption) rfl (by omega) ?_
    refine w_iloadn f107_23 rfl ?_
    refine w_cV f107_24 (Or.inl rfl) rfl (by omega) (okd_of (by assumption)) rfl ⟨Nat.le_of_ble_eq_true rfl, rfl, Nat.le_of_ble_eq_true rfl⟩ (en10 _ _) (s10') (pv10 _ _) ?_
    refine w_i2f f107_27 ?_
    refine w_iloadn f107_28 rfl ?_
    refine w_i2f f107_29 ?_
    refine w_fdiv f107_30 (by exact fd_i (y := w 3) (by omega) (by have z : w 3 ≠ 0 := c1; omega)) ?_
    refine w_fret f107_31 rfl ?_
    unfold tcvW; first | (rw [if_pos (show w 3 = 0 by assumption)]; done) | (rw [if_neg (show w 3 ≠ 0 by assumption)]; first | done | rfl)
  · refine w_fconst f107_12 ?_
    refine w_goto (t := 31) f107_13 (by decide) ?_
    refine w_fret f107_31 rfl ?_
    unfold tcvW; first | (rw [if_pos (show w 3 = 0 by assumption)]; done) | (rw [if_neg (show w 3 ≠ 0 by assumption)]; first | done | rfl)
theorem l108 (hM : RelM r d N h w) : ∀ (m : Nat) (k : Int), 0 ≤ k → k + m = w 3 → ev 108 2 [AR 1, AI k] [] (KS r d, h, R) = some (.inl (AI (fuG w m k)), (KS r d, h, R)) := by
  intro m
  have r0 := hM.rd
  obtain ⟨⟨hr, h40⟩, ⟨hd, hx, hz⟩, hn, qr, qs, qS⟩ := hM
  have hl := shRl (r := r) (d := d) r0.1
  obtain ⟨l1, n1, n2, n3, l5, l6, a0, a1, a2, a3, a4, a5, a6, a7, a8⟩ := id hl
  have n11 := n1.1
  have n21 := n2.1
  have n31 := n3.1
  obtain ⟨l51, l52⟩ := id l5
  have k1 := @kd_1 r d
  have k8 := @kd_8 r d
  have k9 := @kd_9 r d
  have k10 := @kd_10 r d
  have k11 := @kd_11 r d
  have k12 := @kd_12 r d
  have k16 := @kd_16 r d
  have k17 := @kd_17 r d
  have k18 := @kd_18 r d
  have k19 := @kd_19 r d
  have k140 := @kd_140 r d
  have k143 := @kd_143 r d
  have e0 : h (r + 1) 2 = w 0 := qr.1.1.1
  have e1 : h (r + 14) 2 = w 1 := qr.1.2.1.1
  have e2 : h (r + 27) 2 = w 2 := qr.1.2.2.1
  have e3 : h r 5 = w 3 := qr.2.2.1
  have e4 : h 11 0 = w 4 := qs.2.1.1
  obtain ⟨v0, v1, v2, v3, v4⟩ := hd.1.1
  obtain ⟨hd1, hd2⟩ := hW_d hd.2.1
  induction m with
  | zero =>
    intro k h1 h2
    refine Rn.eq ?_
    refine w_iloadn f108_2 rfl ?_
    refine w_aloadn f108_3 rfl (by omega) ?_
    refine w_getR f108_4 (by assumption) rfl (by omega) ?_
    refine w_getI f108_7 (by decide) (by assumption) (by (try simp only [hput, hcopy, Nat.reduceEqDiff, Nat.add_left_cancel_iff, Nat.add_right_cancel_iff, Nat.left_eq_add, Nat.add_eq_left, Nat.right_eq_add, Nat.add_eq_right, Nat.reduceAdd, Nat.add_zero, Nat.succ_ne_self, Nat.one_ne_zero, Nat.zero_ne_one, eq_self, and_self, and_true, true_and, and_false, false_and, if_true, if_false, reduceIte, Int.reduceToNat, Int.toNat_natCast, e3]); exact rfl) ?_
    refine w_ic_ge (t := 36) f108_10 (by decide) (fun c1 => ?_) (fun c1 => by omega)
    refine w_iconst (v := -1) f108_36 (by decide) ?_
    refine w_iret f108_37 rfl ?_
    exact rfl
  | succ m ih =>
    intro k h1 h2
    refine Rn.eq ?_
    have z : h 17 k.toNat = w (69 + k).toNat := (qs.2.2.2.1 k.toNat (by omega)).trans (congrArg w (by omega))
    refine w_iloadn f108_2 rfl ?_
    refine w_aloadn f108_3 rfl (by omega) ?_
    refine w_getR f108_4 (by assumption) rfl (by omega) ?_
    refine w_getI f108_7 (by decide) (by assumption) (by (try simp only [hput, hcopy, Nat.reduceEqDiff, Nat.add_left_cancel_iff, Nat.add_right_cancel_iff, Nat.left_eq_add, Nat.add_eq_left, Nat.right_eq_add, Nat.add_eq_right, Nat.reduceAdd, Nat.add_zero, Nat.succ_ne_self, Nat.one_ne_zero, Nat.zero_ne_one, eq_self, and_self, and_true, true_and, and_false, false_and, if_true, if_false, reduceIte, Int.reduceToNat, Int.toNat_natCast, e3, z]); exact rfl) ?_
    refine w_ic_ge (t := 36) f108_10 (by decide) (fun c1 => by omega) (fun c1 => ?_)
    refine w_aloadn f108_13 rfl (by omega) ?_
    refine w_getR f108_14 (by assumption) rfl (by omega) ?_
    refine w_getR f108_17 (by assumption) rfl (by omega) ?_
    refine w_getR f108_20 (by assumption) rfl (by omega) ?_
    refine w_iloadn f108_23 rfl ?_
    refine w_iald f108_24 (by assumption) (by omega) (by (try simp only [hput, hcopy, Nat.reduceEqDiff, Nat.add_left_cancel_iff, Nat.add_right_cancel_iff, Nat.left_eq_add, Nat.add_eq_left, Nat.right_eq_add, Nat.add_eq_right, Nat.reduceAdd, Nat.add_zero, Nat.succ_ne_self, Nat.one_ne_zero, Nat.zero_ne_one, eq_self, and_self, and_true, true_and, and_false, false_and, if_true, if_false, reduceIte, Int.reduceToNat, Int.toNat_natCast, e3, z]); exact rfl) ?_
    refine w_if_ne (t := 30) f108_25 (by decide) (fun c2 => ?_) (fun c2 => ?_)
    · refine w_iincn f108_30 rfl (by omega) (sto_2_1 rfl) ?_
      refine w_goto (t := 2) f108_33 (by decide) ?_
      refine Rn.to (ih _ (by omega) (by omega)) ?_
      simp only [fuG]; rw [if_neg (by assumption)]
    · refine w_iloadn f108_28 rfl ?_
      refine w_iret f108_29 rfl ?_
      simp only [fuG]; rw [if_pos (by assumption)]
theorem s108 (hM : RelM r d N h w) : ev 108 0 [AR 1, AU] [] (KS r d, h, R) = some (.inl (AI (fuG w (w 3).toNat 0)), (KS r d, h, R)) := by
  refine Rn.eq ?_
  have v3 := hM.2.1.1.1.1.2.2.2.1
  refine w_iconst (v := 0) f108_0 (by decide) ?_
  refine w_istoren f108_1 (Nat.le_of_ble_eq_true rfl) (sto_2_1 rfl) ?_
  exact Rn.to (l108 hM (w 3).toNat 0 (by omega) (by omega)) rfl
theorem l109 (hM : RelM r d N h w) : ∀ (m : Nat) (k b : Int), 0 ≤ k → k + m = w 0 → 0 ≤ b ∧ b < k → ev 109 4 [AR 1, AI b, AI k] [] (KS r d, h, R) = some (.inl (AI (mvG w m k b)), (KS r d, h, R)) := by
  intro m
  have r0 := hM.rd
  obtain ⟨⟨hr, h40⟩, ⟨hd, hx, hz⟩, hn, qr, qs, qS⟩ := hM
  have hl := shRl (r := r) (d := d) r0.1
  obtain ⟨l1, n1, n2, n3, l5, l6, a0, a1, a2, a3, a4, a5, a6, a7, a8⟩ := id hl
  have n11 := n1.1
  have n21 := n2.1
  have n31 := n3.1
  obtain ⟨l51, l52⟩ := id l5
  have k1 := @kd_1 r d
  have k8 := @kd_8 r d
  have k9 := @kd_9 r d
  have k10 := @kd_10 r d
  have k11 := @kd_11 r d
  have k12 := @kd_12 r d
  have k16 := @kd_16 r d
  have k17 := @kd_17 r d
  have k18 := @kd_18 r d
  have k19 := @kd_19 r d
  have k140 := @kd_140 r d
  have k143 := @kd_143 r d
  have e0 : h (r + 1) 2 = w 0 := qr.1.1.1
  have e1 : h (r + 14) 2 = w 1 := qr.1.2.1.1
  have e2 : h (r + 27) 2 = w 2 := qr.1.2.2.1
  have e3 : h r 5 = w 3 := qr.2.2.1
  have e4 : h 11 0 = w 4 := qs.2.1.1
  obtain ⟨v0, v1, v2, v3, v4⟩ := hd.1.1
  obtain ⟨hd1, hd2⟩ := hW_d hd.2.1
  induction m with
  | zero =>
    intro k b h1 h2 h3
    refine Rn.eq ?_
    refine w_iloadn f109_4 rfl ?_
    refine w_aloadn f109_5 rfl (by omega) ?_
    refine w_getR f109_6 (by assumption) rfl (by omega) ?_
    refine w_getR f109_9 (by assumption) rfl (by omega) ?_
    refine w_getI f109_12 (by decide) (by assumption) (by (try simp only [hput, hcopy, Nat.reduceEqDiff, Nat.add_left_cancel_iff, Nat.add_right_cancel_iff, Nat.left_eq_add, Nat.add_eq_left, Nat.right_eq_add, Nat.add_eq_right, Nat.reduceAdd, Nat.add_zero, Nat.succ_ne_self, Nat.one_ne_zero, Nat.zero_ne_one, eq_self, and_self, and_true, true_and, and_false, false_and, if_true, if_false, reduceIte, Int.reduceToNat, Int.toNat_natCast, e0]); exact rfl) ?_
    refine w_ic_ge (t := 53) f109_15 (by decide) (fun c1 => ?_) (fun c1 => by omega)
    refine w_iloadn f109_53 rfl ?_
    refine w_iret f109_54 rfl ?_
    exact rfl
  | succ m ih =>
    intro k b h1 h2 h3
    refine Rn.eq ?_
    have z : h 18 k.toNat = w (59 + k).toNat := (qs.2.2.2.2.1 k.toNat (by omega)).trans (congrArg w (by omega))
    have z2 : h 18 b.toNat = w (59 + b).toNat := (qs.2.2.2.2.1 b.toNat (by omega)).trans (congrArg w (by omega))
    refine w_iloadn f109_4 rfl ?_
    refine w_aloadn f109_5 rfl (by omega) ?_
    refine w_getR f109_6 (by assumption) rfl (by omega) ?_
    refine w_getR f109_9 (by assumption) rfl (by omega) ?_
    refine w_getI f109_12 (by decide) (by assumption) (by (try simp only [hput, hcopy, Nat.reduceEqDiff, Nat.add_left_cancel_iff, Nat.add_right_cancel_iff, Nat.left_eq_add, Nat.add_eq_left, Nat.right_eq_add, Nat.add_eq_right, Nat.reduceAdd, Nat.add_zero, Nat.succ_ne_self, Nat.one_ne_zero, Nat.zero_ne_one, eq_self, and_self, and_true, true_and, and_false, false_and, if_true, if_false, reduceIte, Int.reduceToNat, Int.toNat_natCast, e0, z, z2]); exact rfl) ?_
    refine w_ic_ge (t := 53) f109_15 (by decide) (fun c1 => by omega) (fun c1 => ?_)
    refine w_aloadn f109_18 rfl (by omega) ?_
    refine w_getR f109_19 (by assumption) rfl (by omega) ?_
    refine w_getR f109_22 (by assumption) rfl (by omega) ?_
    refine w_getR f109_25 (by assumption) rfl (by omega) ?_
    refine w_iloadn f109_28 rfl ?_
    refine w_iald f109_29 (by assumption) (by omega) (by (try simp only [hput, hcopy, Nat.reduceEqDiff, Nat.add_left_cancel_iff, Nat.add_right_cancel_iff, Nat.left_eq_add, Nat.add_eq_left, Nat.right_eq_add, Nat.add_eq_right, Nat.reduceAdd, Nat.add_zero, Nat.succ_ne_self, Nat.one_ne_zero, Nat.zero_ne_one, eq_self, and_self, and_true, true_and, and_false, false_and, if_true, if_false, reduceIte, Int.reduceToNat, Int.toNat_natCast, e0, z, z2]); exact rfl) ?_
    refine w_aloadn f109_30 rfl (by omega) ?_
    refine w_getR f109_31 (by assumption) rfl (by omega) ?_
    refine w_getR f109_34 (by assumption) rfl (by omega) ?_
    refine w_getR f109_37 (by assumption) rfl (by omega) ?_
    refine w_iloadn f109_40 rfl ?_
    refine w_iald f109_41 (by assumption) (by omega) (by (try simp only [hput, hcopy, Nat.reduceEqDiff, Nat.add_left_cancel_iff, Nat.add_right_cancel_iff, Nat.left_eq_add, Nat.add_eq_left, Nat.right_eq_add, Nat.add_eq_right, Nat.reduceAdd, Nat.add_zero, Nat.succ_ne_self, Nat.one_ne_zero, Nat.zero_ne_one, eq_self, and_self, and_true, true_and, and_false, false_and, if_true, if_false, reduceIte, Int.reduceToNat, Int.toNat_natCast, e0, z, z2]); exact rfl) ?_
    refine w_ic_le (t := 47) f109_42 (by decide) (fun c2 => ?_) (fun c2 => ?_)
    · refine w_iincn f109_47 rfl (by omega) (sto_3_2 rfl) ?_
      refine w_goto (t := 4) f109_50 (by decide) ?_
      first | (refine Rn.to (ih _ _ (by omega) (by omega) (by omega)) ?_; simp only [mvG]; rw [if_neg (by omega)]; done) | (refine Rn.to (ih _ _ (by omega) (by omega) (by omega)) ?_; simp only [mvG]; rw [if_pos (by omega)]; done)
    · refine w_iloadn f109_45 rfl ?_
      refine w_istoren f109_46 (Nat.le_of_ble_eq_true rfl) (sto_3_1 rfl) ?_
      refine w_iincn f109_47 rfl (by omega) (sto_3_2 rfl) ?_
      refine w_goto (t := 4) f109_50 (by decide) ?_
      first | (refine Rn.to (ih _ _ (by omega) (by omega) (by omega)) ?_; simp only [mvG]; rw [if_neg (by omega)]; done) | (refine Rn.to (ih _ _ (by omega) (by omega) (by omega)) ?_; simp only [mvG]; rw [if_pos (by omega)]; done)
theorem s109 (hM : RelM r d N h w) : ev 109 0 [AR 1, AU, AU] [] (KS r d, h, R) = some (.inl (AI (mvG w (w 0 - 1).toNat 1 0)), (KS r d, h, R)) := by
  refine Rn.eq ?_
  have hn := hM.2.2.1
  refine w_iconst (v := 0) f109_0 (by decide) ?_
  refine w_istoren f109_1 (Nat.le_of_ble_eq_true rfl) (sto_3_1 rfl) ?_
  refine w_iconst (v := 1) f109_2 (by decide) ?_
  refine w_istoren f109_3 (Nat.le_of_ble_eq_true rfl) (sto_3_2 rfl) ?_
  exact Rn.to (l109 hM (w 0 - 1).toNat 1 0 (by omega) (by omega) (by omega)) rfl
theorem s112 {x : Int} (hM : RelM r d N h w) : ev 112 0 [AR 1, AI x] [] (KS r d, h, R) = some (.inl (AI (if 0 ≤ x ∧ x < w 18 then w (19 + 2 * x + 1).toNat else -1)), (KS r d, h, R)) := by
  refine Rn.eq ?_
  have r0 := hM.rd
  obtain ⟨⟨hr, h40⟩, ⟨hd, hx, hz⟩, hn, qr, qs, qS⟩ := hM
  have hl := shRl (r := r) (d := d) r0.1
  obtain ⟨l1, n1, n2, n3, l5, l6, a0, a1, a2, a3, a4, a5, a6, a7, a8⟩ := id hl
  have n11 := n1.1
  have n21 := n2.1
  have n31 := n3.1
  obtain ⟨l51, l52⟩ := id l5
  have k1 := @kd_1 r d
  have k8 := @kd_8 r d
  have k9 := @kd_9 r d
  have k10 := @kd_10 r d
  have k11 := @kd_11 r d
  have k12 := @kd_12 r d
  have k16 := @kd_16 r d
  have k17 := @kd_17 r d
  have k18 := @kd_18 r d
  have k19 := @kd_19 r d
  have k140 := @kd_140 r d
  have k143 := @kd_143 r d
  have e0 : h (r + 1) 2 = w 0 := qr.1.1.1
  have e1 : h (r + 14) 2 = w 1 := qr.1.2.1.1
  have e2 : h (r + 27) 2 = w 2 := qr.1.2.2.1
  have e3 : h r 5 = w 3 := qr.2.2.1
  have e4 : h 11 0 = w 4 := qs.2.1.1
  obtain ⟨v0, v1, v2, v3, v4⟩ := hd.1.1
  obtain ⟨hd1, hd2⟩ := hW_d hd.2.1
  have d18 := hd.2.2.1
  have e18 : h 16 6 = w 18 := qs.2.2.1.2.2
  have z := s8 (h := h) (R := R) (x := x) (sh8 (r := r) (d := d)).2.2.2 (by decide) (by show h 16 6 ≤ 20; rw [e18]; exact d18.2)
  have y : (if 0 ≤ x ∧ x < h (8 + 8) 6 then h (8 + 8 + 4) x.toNat else -1) = (if 0 ≤ x ∧ x < w 18 then w (19 + 2 * x + 1).toNat else -1) := by
    show (if 0 ≤ x ∧ x < h 16 6 then h 20 x.toNat else -1) = _
    rw [e18]
    by_cases q : 0 ≤ x ∧ x < w 18
    · rw [if_pos q, if_pos q]
      exact (qs.2.2.2.2.2.2 x.toNat (by omega)).trans (congrArg w (by omega))
    · rw [if_neg q, if_neg q]
  rw [y] at z
  refine w_aloadn f112_0 rfl (by omega) ?_
  refine w_getR f112_1 (by assumption) rfl (by omega) ?_
  refine w_getR f112_4 (by assumption) rfl (by omega) ?_
  refine w_iloadn f112_7 rfl ?_
  refine w_cV f112_8 (Or.inl rfl) rfl (by omega) (okd_of (by assumption)) rfl ⟨Nat.le_of_ble_eq_true rfl, rfl, Nat.le_of_ble_eq_true rfl⟩ (en8 _ _) (z) (pv8 _ _) ?_
  refine w_iret f112_11 rfl ?_
  rfl
theorem s111 {x : Int} (hM : RelM r d N h w) : ev 111 0 [AR 1, AI x, AU] [] (KS r d, h, R) = some (.inl (AI (if 0 ≤ x ∧ x < w 18 then w (19 + 2 * x).toNat else -1)), (KS r d, h, R)) := by
  refine Rn.eq ?_
  have r0 := hM.rd
  obtain ⟨⟨hr, h40⟩, ⟨hd, hx, hz⟩, hn, qr, qs, qS⟩ := hM
  have hl := shRl (r := r) (d := d) r0.1
  obtain ⟨l1, n1, n2, n3, l5, l6, a0, a1, a2, a3, a4, a5, a6, a7, a8⟩ := id hl
  have n11 := n1.1
  have n21 := n2.1
  have n31 := n3.1
  obtain ⟨l51, l52⟩ := id l5
  have k1 := @kd_1 r d
  have k8 := @kd_8 r d
  have k9 := @kd_9 r d
  have k10 := @kd_10 r d
  have k11 := @kd_11 r d
  have k12 := @kd_12 r d
  have k16 := @kd_16 r d
  have k17 := @kd_17 r d
  have k18 := @kd_18 r d
  have k19 := @kd_19 r d
  have k140 := @kd_140 r d
  have k143 := @kd_143 r d
  have e0 : h (r + 1) 2 = w 0 := qr.1.1.1
  have e1 : h (r + 14) 2 = w 1 := qr.1.2.1.1
  have e2 : h (r + 27) 2 = w 2 := qr.1.2.2.1
  have e3 : h r 5 = w 3 := qr.2.2.1
  have e4 : h 11 0 = w 4 := qs.2.1.1
  obtain ⟨v0, v1, v2, v3, v4⟩ := hd.1.1
  obtain ⟨hd1, hd2⟩ := hW_d hd.2.1
  have d18 := hd.2.2.1
  have e18 : h 16 6 = w 18 := qs.2.2.1.2.2
  have z := s8 (h := h) (R := R) (x := x) (sh8 (r := r) (d := d)).2.2.2 (by decide) (by show h 16 6 ≤ 20; rw [e18]; exact d18.2)
  by_cases q : 0 ≤ x ∧ x < w 18
  · have y : (if 0 ≤ x ∧ x < h (8 + 8) 6 then h (8 + 8 + 4) x.toNat else -1) = w (20 + 2 * x.toNat) := by
      show (if 0 ≤ x ∧ x < h 16 6 then h 20 x.toNat else -1) = _
      rw [e18, if_pos q]
      exact qs.2.2.2.2.2.2 x.toNat (by omega)
    rw [y] at z
    have t0 := (hd.2.2.2.2.2 x.toNat (by omega)).2
    have t1 := hx.1 x.toNat (by omega)
    have t2 := (qr.2.2.v t0).1.2.1
    have t3 : w (19 + 2 * x).toNat = w (19 + 2 * x.toNat) := congrArg w (by omega)
    rw [if_pos q, t3, t1]
    refine w_aloadn f111_0 rfl (by omega) ?_
    refine w_getR f111_1 (by assumption) rfl (by omega) ?_
    refine w_getR f111_4 (by assumption) rfl (by omega) ?_
    refine w_iloadn f111_7 rfl ?_
    refine w_cV f111_8 (Or.inl rfl) rfl (by omega) (okd_of (by assumption)) rfl ⟨Nat.le_of_ble_eq_true rfl, rfl, Nat.le_of_ble_eq_true rfl⟩ (en8 _ _) (z) (pv8 _ _) ?_
    refine w_istoren f111_11 (Nat.le_of_ble_eq_true rfl) (sto_3_2 rfl) ?_
    refine w_iloadn f111_12 rfl ?_
    refine w_iconst (v := -1) f111_13 (by decide) ?_
    refine w_ic_ne (t := 21) f111_14 (by decide) (fun c1 => ?_) (fun c1 => by omega)
    refine w_aloadn f111_21 rfl (by omega) ?_
    refine w_getR f111_22 (by assumption) rfl (by omega) ?_
    refine w_getR f111_25 (by assumption) rfl (by omega) ?_
    refine w_iloadn f111_28 rfl ?_
    refine w_iald f111_29 (by assumption) (by omega) (by exact t2) ?_
    refine w_iret f111_30 rfl ?_
    rfl
  · have y : (if 0 ≤ x ∧ x < h (8 + 8) 6 then h (8 + 8 + 4) x.toNat else -1) = -1 := by
      show (if 0 ≤ x ∧ x < h 16 6 then h 20 x.toNat else -1) = _
      rw [e18, if_neg q]
    rw [y] at z
    rw [if_neg q]
    refine w_aloadn f111_0 rfl (by omega) ?_
    refine w_getR f111_1 (by assumption) rfl (by omega) ?_
    refine w_getR f111_4 (by assumption) rfl (by omega) ?_
    refine w_iloadn f111_7 rfl ?_
    refine w_cV f111_8 (Or.inl rfl) rfl (by omega) (okd_of (by assumption)) rfl ⟨Nat.le_of_ble_eq_true rfl, rfl, Nat.le_of_ble_eq_true rfl⟩ (en8 _ _) (z) (pv8 _ _) ?_
    refine w_istoren f111_11 (Nat.le_of_ble_eq_true rfl) (sto_3_2 rfl) ?_
    refine w_iloadn f111_12 rfl ?_
    refine w_iconst (v := -1) f111_13 (by decide) ?_
    refine w_ic_ne (t := 21) f111_14 (by decide) (fun c1 => by omega) (fun c1 => ?_)
    refine w_iconst (v := -1) f111_17 (by decide) ?_
    refine w_goto (t := 30) f111_18 (by decide) ?_
    refine w_iret f111_30 rfl ?_
    rfl
theorem l121 (hM : RelM r d N h w) {Q : Out → Prop} (g : Rn (ev 121 41 [AR 1, AI (w 2), AI (smG w 6 (w 2).toNat 0 0), AI (w 2)] [] (KS r d, h, R)) Q) : ∀ (m : Nat) (k a : Int), 0 ≤ k → k + m = w 2 → 0 ≤ a → a + 9 * m ≤ 1000 → smG w 6 m k a = smG w 6 (w 2).toNat 0 0 → Rn (ev 121 15 [AR 1, AI (w 2), AI a, AI k] [] (KS r d, h, R)) Q := by
  intro m
  have r0 := hM.rd
  obtain ⟨⟨hr, h40⟩, ⟨hd, hx, hz⟩, hn, qr, qs, qS⟩ := hM
  have hl := shRl (r := r) (d := d) r0.1
  obtain ⟨l1, n1, n2, n3, l5, l6, a0, a1, a2, a3, a4, a5, a6, a7, a8⟩ := id hl
  have n11 := n1.1
  have n21 := n2.1
  have n31 := n3.1
  obtain ⟨l51, l52⟩ := id l5
  have k1 := @kd_1 r d
  have k8 := @kd_8 r d
  have k9 := @kd_9 r d
  have k10 := @kd_10 r d
  have k11 := @kd_11 r d
  have k12 := @kd_12 r d
  have k16 := @kd_16 r d
  have k17 := @kd_17 r d
  have k18 := @kd_18 r d
  have k19 := @kd_19 r d
  have k140 := @kd_140 r d
  have k143 := @kd_143 r d
  have e0 : h (r + 1) 2 = w 0 := qr.1.1.1
  have e1 : h (r + 14) 2 = w 1 := qr.1.2.1.1
  have e2 : h (r + 27) 2 = w 2 := qr.1.2.2.1
  have e3 : h r 5 = w 3 := qr.2.2.1
  have e4 : h 11 0 = w 4 := qs.2.1.1
  obtain ⟨v0, v1, v2, v3, v4⟩ := hd.1.1
  obtain ⟨hd1, hd2⟩ := hW_d hd.2.1
  induction m with
  | zero =>
    intro k a h1 h2 h3 h4 h5
    have h5 : a = smG w 6 (w 2).toNat 0 0 := h5
    have h6 : k = w 2 := by omega
    rw [← h5, ← h6] at g
    rw [← h6]
    refine w_iloadn f121_15 rfl ?_
    refine w_iloadn f121_16 rfl ?_
    refine w_ic_ge (t := 41) f121_17 (by decide) (fun c1 => ?_) (fun c1 => by omega)
    exact g
  | succ m ih =>
    intro k a h1 h2 h3 h4 h5
    have z : h 10 k.toNat = w (6 + k).toNat := (qs.1.v ⟨h1, by omega⟩).trans (hd2 k h1 (by omega))
    have zr : 0 ≤ w (6 + k).toNat ∧ w (6 + k).toNat ≤ 9 := vals_r hd.2.1 ⟨h1, by omega⟩
    have e : wr (a + w (6 + k).toNat) = a + w (6 + k).toNat := by unfold wr; omega
    have y : smG w 6 m (k + 1) (a + w (6 + k).toNat) = smG w 6 (w 2).toNat 0 0 := by
      rw [← h5]
      show _ = smG w 6 m (k + 1) (wr (a + w (6 + k).toNat))
      rw [e]
    refine w_iloadn f121_15 rfl ?_
    refine w_iloadn f121_16 rfl ?_
    refine w_ic_ge (t := 41) f121_17 (by decide) (fun c1 => by omega) (fun c1 => ?_)
    refine w_iloadn f121_20 rfl ?_
    refine w_aloadn f121_21 rfl (by omega) ?_
    refine w_getR f121_22 (by assumption) rfl (by omega) ?_
    refine w_getR f121_25 (by assumption) rfl (by omega) ?_
    refine w_getR f121_28 (by assumption) rfl (by omega) ?_
    refine w_iloadn f121_31 rfl ?_
    refine w_iald f121_32 (by assumption) (by omega) (by exact z) ?_
    refine w_iaddn f121_33 (by omega) ?_
    refine w_istoren f121_34 (Nat.le_of_ble_eq_true rfl) (sto_4_2 rfl) ?_
    refine w_iincn f121_35 rfl (by omega) (sto_4_3 rfl) ?_
    refine w_goto (t := 15) f121_38 (by decide) ?_
    exact ih _ _ (by omega) (by omega) (by omega) (by omega) y
theorem s121 (hM : RelM r d N h w) : ev 121 0 [AR 1, AU, AU, AU] [] (KS r d, h, R) = some (.inl (AD (menW w)), (KS r d, h, R)) := by
  refine Rn.eq ?_
  have hM1 := hM
  have r0 := hM.rd
  obtain ⟨⟨hr, h40⟩, ⟨hd, hx, hz⟩, hn, qr, qs, qS⟩ := hM
  have hl := shRl (r := r) (d := d) r0.1
  obtain ⟨l1, n1, n2, n3, l5, l6, a0, a1, a2, a3, a4, a5, a6, a7, a8⟩ := id hl
  have n11 := n1.1
  have n21 := n2.1
  have n31 := n3.1
  obtain ⟨l51, l52⟩ := id l5
  have k1 := @kd_1 r d
  have k8 := @kd_8 r d
  have k9 := @kd_9 r d
  have k10 := @kd_10 r d
  have k11 := @kd_11 r d
  have k12 := @kd_12 r d
  have k16 := @kd_16 r d
  have k17 := @kd_17 r d
  have k18 := @kd_18 r d
  have k19 := @kd_19 r d
  have k140 := @kd_140 r d
  have k143 := @kd_143 r d
  have e0 : h (r + 1) 2 = w 0 := qr.1.1.1
  have e1 : h (r + 14) 2 = w 1 := qr.1.2.1.1
  have e2 : h (r + 27) 2 = w 2 := qr.1.2.2.1
  have e3 : h r 5 = w 3 := qr.2.2.1
  have e4 : h 11 0 = w 4 := qs.2.1.1
  obtain ⟨v0, v1, v2, v3, v4⟩ := hd.1.1
  obtain ⟨hd1, hd2⟩ := hW_d hd.2.1
  have c := smG_r (w := w) (f := 6) (w 2).toNat 0 0 (by omega) (by omega) (fun i h4 h5 => vals_r hd.2.1 ⟨h4, by omega⟩)
  have g : Rn (ev 121 41 [AR 1, AI (w 2), AI (smG w 6 (w 2).toNat 0 0), AI (w 2)] [] (KS r d, h, R)) (fun o => o = (.inl (AD (menW w)), (KS r d, h, R))) := by
    refine w_iloadn f121_41 rfl ?_
    refine w_if_ne (t := 49) f121_42 (by decide) (fun c1 => ?_) (fun c1 => by omega)
    refine w_iloadn f121_49 rfl ?_
    refine w_i2d f121_50 ?_
    refine w_iloadn f121_51 rfl ?_
    refine w_i2d f121_52 ?_
    refine w_ddiv f121_53 (by exact dd_i (by omega) (by omega)) ?_
    refine w_dret f121_54 rfl ?_
    rfl
  have z := l121 hM1 g (w 2).toNat 0 0 (by omega) (by omega) (by omega) (by omega) rfl
  refine w_aloadn f121_0 rfl (by omega) ?_
  refine w_getR f121_1 (by assumption) rfl (by omega) ?_
  refine w_getR f121_4 (by assumption) rfl (by omega) ?_
  refine w_getI f121_7 (by decide) (by assumption) (by (try simp only [hput, hcopy, Nat.reduceEqDiff, Nat.add_left_cancel_iff, Nat.add_right_cancel_iff, Nat.left_eq_add, Nat.add_eq_left, Nat.right_eq_add, Nat.add_eq_right, Nat.reduceAdd, Nat.add_zero, Nat.succ_ne_self, Nat.one_ne_zero, Nat.zero_ne_one, eq_self, and_self, and_true, true_and, and_false, false_and, if_true, if_false, reduceIte, Int.reduceToNat, Int.toNat_natCast, e2]); exact rfl) ?_
  refine w_istoren f121_10 (Nat.le_of_ble_eq_true rfl) (sto_4_1 rfl) ?_
  refine w_iconst (v := 0) f121_11 (by decide) ?_
  refine w_istoren f121_12 (Nat.le_of_ble_eq_true rfl) (sto_4_2 rfl) ?_
  refine w_iconst (v := 0) f121_13 (by decide) ?_
  refine w_istoren f121_14 (Nat.le_of_ble_eq_true rfl) (sto_4_3 rfl) ?_
  exact z
end A

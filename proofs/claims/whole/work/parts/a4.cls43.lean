/-! the class: undo, the saved state, texts and output -/
section A
variable {K : List AKd} {h : Nat → Nat → Int} {R : R4} {σ : Sg} {r d : Nat} {w u : Nat → Int} {b : Nat → Int} {n N M : Int}
/-- the class has taken u back -/
def BkQ (h : Nat → Nat → Int) (u : Nat → Int) (h1 : Nat → Nat → Int) : Prop := (∀ x y, x ≠ 34 → (x < 8 ∨ 21 ≤ x) → ¬ (x = 143 ∧ y = 0) → h1 x y = h x y) ∧ RSt h1 8 u ∧ h1 143 0 = 0
theorem s127f (hc : h 34 2 = 0) : ev 127 0 [AR 1] [] (KS r d, h, R) = some (.inr 3, bump (KS r d, h, R)) := by
  refine Rn.eq ?_
  have k1 := @kd_1 r d
  have k34 := @kd_34 r d
  refine w_aloadn f127_0 rfl (by omega) ?_
  refine w_getR f127_1 (by assumption) rfl (by omega) ?_
  refine w_getI f127_4 (by decide) (by assumption) (by (try simp only [hput, hcopy, Nat.reduceEqDiff, Nat.add_left_cancel_iff, Nat.add_right_cancel_iff, Nat.left_eq_add, Nat.add_eq_left, Nat.right_eq_add, Nat.add_eq_right, Nat.reduceAdd, Nat.add_zero, Nat.succ_ne_self, Nat.one_ne_zero, Nat.zero_ne_one, eq_self, and_self, and_true, true_and, and_false, false_and, if_true, if_false, reduceIte, Int.reduceToNat, Int.toNat_natCast, hc]); exact rfl) ?_
  refine w_if_le (t := 14) f127_7 (by decide) (fun c1 => ?_) (fun c1 => by omega)
  refine w_iconst (v := 0) f127_14 (by decide) ?_
  refine w_xS f127_15 (Or.inl rfl) (Nat.le_of_ble_eq_true rfl) rfl rfl ⟨Nat.le_of_ble_eq_true rfl, rfl, Nat.le_of_ble_eq_true rfl⟩ (en135 _) rfl rfl (s135) (pv135 _ _) (fun c2 => ?_) (fun c2 => ?_)
  · exact absurd rfl (show (0 : Int) ≠ 0 by assumption)
  · rfl
theorem s127t {c : Int} (hu : WFd u N) (hp : 0 ≤ h 34 1 ∧ h 34 1 < 8) (hc : h 34 2 = c) (hc0 : 1 ≤ c ∧ c ≤ 8) (hv : RSt h (36 + 13 * (h 34 1).toNat) u) : Rn (ev 127 0 [AR 1] [] (KS r d, h, R)) (fun o => ∃ h1, (BkQ h u h1 ∧ h1 34 1 = (h 34 1 + 7) % 8 ∧ h1 34 2 = c - 1) ∧ o = (.inl (AI (c - 1)), (KS r d, h1, R))) := by
  have k1 := @kd_1 r d
  have k34 := @kd_34 r d
  have k8 := @kd_8 r d
  have k143 := @kd_143 r d
  refine w_aloadn f127_0 rfl (by omega) ?_
  refine w_getR f127_1 (by assumption) rfl (by omega) ?_
  refine w_getI f127_4 (by decide) (by assumption) (by (try simp only [hput, hcopy, Nat.reduceEqDiff, Nat.add_left_cancel_iff, Nat.add_right_cancel_iff, Nat.left_eq_add, Nat.add_eq_left, Nat.right_eq_add, Nat.add_eq_right, Nat.reduceAdd, Nat.add_zero, Nat.succ_ne_self, Nat.one_ne_zero, Nat.zero_ne_one, eq_self, and_self, and_true, true_and, and_false, false_and, if_true, if_false, reduceIte, Int.reduceToNat, Int.toNat_natCast, hc]); exact rfl) ?_
  refine w_if_le (t := 14) f127_7 (by decide) (fun c1 => by omega) (fun c1 => ?_)
  refine w_iconst (v := 1) f127_10 (by decide) ?_
  refine w_goto (t := 15) f127_11 (by decide) ?_
  refine w_xS f127_15 (Or.inl rfl) (Nat.le_of_ble_eq_true rfl) rfl rfl ⟨Nat.le_of_ble_eq_true rfl, rfl, Nat.le_of_ble_eq_true rfl⟩ (en135 _) rfl rfl (s135) (pv135 _ _) (fun c2 => ?_) (fun c2 => ?_)
  · refine w_aloadn f127_18 rfl (by omega) ?_
    refine w_getR f127_19 (by assumption) rfl (by omega) ?_
    refine w_aloadn f127_22 rfl (by omega) ?_
    refine w_getR f127_23 (by assumption) rfl (by omega) ?_
    refine w_qV f127_26 (Or.inl rfl) rfl (by omega) (okd_of (by assumption)) rfl ⟨Nat.le_of_ble_eq_true rfl, rfl, Nat.le_of_ble_eq_true rfl⟩ (en16 _ _) (s16 sh8 (by decide) (by decide) hu.1.1.2.2.2.2 hu.2.2.1.2 rfl hc hp hc0 hv) (fun o9 ho9 => ?_)
    obtain ⟨h1, ⟨q1, q2, q3, q4⟩, rfl⟩ := ho9
    refine w_bok (pv16 _ _) ?_
    refine w_aloadn f127_29 rfl (by omega) ?_
    refine w_getR f127_30 (by assumption) rfl (by omega) ?_
    refine w_iconst (v := 0) f127_33 (by decide) ?_
    refine w_putZ f127_34 (by assumption) (by decide) ?_
    refine w_aloadn f127_37 rfl (by omega) ?_
    refine w_getR f127_38 (by assumption) rfl (by omega) ?_
    refine w_getI f127_41 (by decide) (by assumption) (by exact (hput_k (by decide)).trans q3) ?_
    refine w_iret f127_44 rfl ?_
    exact ⟨_, ⟨⟨fun x y x1 x2 x3 => (if_neg x3).trans (q1 x y x1 (by omega)), q4.fr (fun x y z1 z2 => hput_k (by omega)), hput_s⟩, (hput_k (by decide)).trans q2, (hput_k (by decide)).trans q3⟩, rfl⟩
  · exact absurd (show (1 : Int) ≠ 0 by decide) (by assumption)
theorem s130 (hM : RelM r d N h w) : Rn (ev 130 0 [AR 1] [] (KS r d, h, R)) (fun o => ∃ h1, ((∀ x y, (x < 21 ∨ 34 ≤ x) → ¬ (x = 1 ∧ y = 13) → h1 x y = h x y) ∧ RSt h1 21 w ∧ h1 1 13 = 1) ∧ o = (.inl (AI (w 5)), (KS r d, h1, R))) := by
  have r0 := hM.rd
  obtain ⟨⟨hr, h40⟩, ⟨hd, hx, hz⟩, hn, qr, qs, qS⟩ := hM
  have hl := shRl (r := r) (d := d) r0.1
  obtain ⟨l1, n1, n2, n3, l5, l6, a0, a1, a2, a3, a4, a5, a6, a7, a8⟩ := id hl
  have n11 := n1.1
  have n21 := n2.1
  have n31 := n3.1
  obtain ⟨l51, l52⟩ := id l5
  have k1 := @kd_1 r d
  have k8 := @kd_8 r d
  have k9 := @kd_9 r d
  have k10 := @kd_10 r d
  have k11 := @kd_11 r d
  have k12 := @kd_12 r d
  have k16 := @kd_16 r d
  have k17 := @kd_17 r d
  have k18 := @kd_18 r d
  have k19 := @kd_19 r d
  have k140 := @kd_140 r d
  have k143 := @kd_143 r d
  have e0 : h (r + 1) 2 = w 0 := qr.1.1.1
  have e1 : h (r + 14) 2 = w 1 := qr.1.2.1.1
  have e2 : h (r + 27) 2 = w 2 := qr.1.2.2.1
  have e3 : h r 5 = w 3 := qr.2.2.1
  have e4 : h 11 0 = w 4 := qs.2.1.1
  obtain ⟨v0, v1, v2, v3, v4⟩ := hd.1.1
  obtain ⟨hd1, hd2⟩ := hW_d hd.2.1
  have k21 := @kd_21 r d
  have e9 : h 9 0 = w 5 := qs.1.1.trans hd1
  refine w_aloadn f130_0 rfl (by omega) ?_
  refine w_getR f130_1 (by assumption) rfl (by omega) ?_
  refine w_aloadn f130_4 rfl (by omega) ?_
  refine w_getR f130_5 (by assumption) rfl (by omega) ?_
  refine w_qV f130_8 (Or.inl rfl) rfl (by omega) (okd_of (by assumption)) rfl ⟨Nat.le_of_ble_eq_true rfl, rfl, Nat.le_of_ble_eq_true rfl⟩ (en67 _ _) (s67 sh21 sh8 (by decide) (by decide) (by decide) v4 hd.2.2.1.2 qs) (fun o9 ho9 => ?_)
  obtain ⟨h1, ⟨q1, q2⟩, rfl⟩ := ho9
  refine w_bok (pv67 _ _) ?_
  refine w_aloadn f130_11 rfl (by omega) ?_
  refine w_iconst (v := 1) f130_12 (by decide) ?_
  refine w_putZ f130_13 (by assumption) (by decide) ?_
  refine w_aloadn f130_16 rfl (by omega) ?_
  refine w_getR f130_17 (by assumption) rfl (by omega) ?_
  refine w_getR f130_20 (by assumption) rfl (by omega) ?_
  refine w_getI f130_23 (by decide) (by assumption) (by exact (hput_k (by decide)).trans ((q1 _ _ (by decide)).trans e9)) ?_
  refine w_iret f130_26 rfl ?_
  exact ⟨_, ⟨fun x y x1 x2 => (if_neg x2).trans (q1 x y (by omega)), q2.fr (fun x y z1 z2 => hput_k (by omega)), hput_s⟩, rfl⟩
theorem s131f (hc : h 1 13 = 0) : ev 131 0 [AR 1] [] (KS r d, h, R) = some (.inr 3, bump (KS r d, h, R)) := by
  refine Rn.eq ?_
  have k1 := @kd_1 r d
  refine w_aloadn f131_0 rfl (by omega) ?_
  refine w_getI f131_1 (by decide) (by assumption) (by (try simp only [hput, hcopy, Nat.reduceEqDiff, Nat.add_left_cancel_iff, Nat.add_right_cancel_iff, Nat.left_eq_add, Nat.add_eq_left, Nat.right_eq_add, Nat.add_eq_right, Nat.reduceAdd, Nat.add_zero, Nat.succ_ne_self, Nat.one_ne_zero, Nat.zero_ne_one, eq_self, and_self, and_true, true_and, and_false, false_and, if_true, if_false, reduceIte, Int.reduceToNat, Int.toNat_natCast, hc]); exact rfl) ?_
  refine w_xS f131_4 (Or.inl rfl) (Nat.le_of_ble_eq_true rfl) rfl rfl ⟨Nat.le_of_ble_eq_true rfl, rfl, Nat.le_of_ble_eq_true rfl⟩ (en135 _) rfl rfl (s135) (pv135 _ _) (fun c1 => ?_) (fun c1 => ?_)
  · exact absurd rfl (show (0 : Int) ≠ 0 by assumption)
  · rfl
theorem s131t (hu : WFd u N) (hc : h 1 13 ≠ 0) (hv : RSt h 21 u) : Rn (ev 131 0 [AR 1] [] (KS r d, h, R)) (fun o => ∃ h1, (BkQ h u h1 ∧ h1 34 1 = h 34 1 ∧ h1 34 2 = 0) ∧ o = (.inl (AI (u 5)), (KS r d, h1, R))) := by
  have k1 := @kd_1 r d
  have k34 := @kd_34 r d
  have k8 := @kd_8 r d
  have k9 := @kd_9 r d
  have k21 := @kd_21 r d
  have k143 := @kd_143 r d
  have hd1 := (hW_d hu.2.1).1
  refine w_aloadn f131_0 rfl (by omega) ?_
  refine w_getI f131_1 (by decide) (by assumption) (by (try simp only [hput, hcopy, Nat.reduceEqDiff, Nat.add_left_cancel_iff, Nat.add_right_cancel_iff, Nat.left_eq_add, Nat.add_eq_left, Nat.right_eq_add, Nat.add_eq_right, Nat.reduceAdd, Nat.add_zero, Nat.succ_ne_self, Nat.one_ne_zero, Nat.zero_ne_one, eq_self, and_self, and_true, true_and, and_false, false_and, if_true, if_false, reduceIte, Int.reduceToNat, Int.toNat_natCast]); exact rfl) ?_
  refine w_xS f131_4 (Or.inl rfl) (Nat.le_of_ble_eq_true rfl) rfl rfl ⟨Nat.le_of_ble_eq_true rfl, rfl, Nat.le_of_ble_eq_true rfl⟩ (en135 _) rfl rfl (s135) (pv135 _ _) (fun c1 => ?_) (fun c1 => ?_)
  · refine w_aloadn f131_7 rfl (by omega) ?_
    refine w_getR f131_8 (by assumption) rfl (by omega) ?_
    refine w_aloadn f131_11 rfl (by omega) ?_
    refine w_getR f131_12 (by assumption) rfl (by omega) ?_
    refine w_qV f131_15 (Or.inl rfl) rfl (by omega) (okd_of (by assumption)) rfl ⟨Nat.le_of_ble_eq_true rfl, rfl, Nat.le_of_ble_eq_true rfl⟩ (en67 _ _) (s67 sh8 sh21 (by decide) (by decide) (by decide) hu.1.1.2.2.2.2 hu.2.2.1.2 hv) (fun o9 ho9 => ?_)
    obtain ⟨h1, ⟨q1, q2⟩, rfl⟩ := ho9
    refine w_bok (pv67 _ _) ?_
    refine w_aloadn f131_18 rfl (by omega) ?_
    refine w_getR f131_19 (by assumption) rfl (by omega) ?_
    refine w_iconst (v := 0) f131_22 (by decide) ?_
    refine w_putI f131_23 (by assumption) ?_
    refine w_aloadn f131_26 rfl (by omega) ?_
    refine w_getR f131_27 (by assumption) rfl (by omega) ?_
    refine w_iconst (v := 0) f131_30 (by decide) ?_
    refine w_putZ f131_31 (by assumption) (by decide) ?_
    refine w_aloadn f131_34 rfl (by omega) ?_
    refine w_getR f131_35 (by assumption) rfl (by omega) ?_
    refine w_getR f131_38 (by assumption) rfl (by omega) ?_
    refine w_getI f131_41 (by decide) (by assumption) (by exact (hput_k (by decide)).trans ((hput_k (by decide)).trans (q2.1.1.trans hd1))) ?_
    refine w_iret f131_44 rfl ?_
    exact ⟨_, ⟨⟨fun x y x1 x2 x3 => (if_neg x3).trans ((hput_k x1).trans (q1 x y (by omega))), q2.fr (fun x y z1 z2 => (hput_k (by omega)).trans (hput_k (by omega))), hput_s⟩, (hput_k (by decide)).trans ((hput_j (by decide)).trans (q1 _ _ (by decide))), (hput_k (by decide)).trans hput_s⟩, rfl⟩
  · exact absurd hc (by assumption)
/-- both have taken u back -/
theorem RelM.back {h1 : Nat → Nat → Int} {f : Nat → Int} (q : RelM r d N h w) (p : BkQ h u h1) (hu : HOK w N u) (a : ∀ y : Nat, y < 504 → f y = u y) : RelM r d N h1 f := by
  have r0 := q.rd
  exact q.to (hu.a5 a).1 (hu.a5 a).2.1 (hu.a5 a).2.2 (fun x y z => p.1 x y (by omega) (by omega) (by omega)) (p.2.1.a5 hu.1 a) p.2.2
theorem Rel.undo {g g1 h1 : Nat → Nat → Int} {c : Int} (q : Rel r d N h g) (hc : g 268 4 = c + 1) (hc0 : 0 ≤ c) (p : BkQ h (cutW (g 272) (504 * c.toNat)) h1) (p1 : h1 34 1 = (h 34 1 + 7) % 8) (p2 : h1 34 2 = c) (g4 : g1 268 4 = c) (g9 : ∀ y : Nat, y < 504 → g1 269 y = g 272 (504 * c.toNat + y)) (ge : ∀ x y, x = 271 ∨ x = 272 ∨ x = 275 ∨ x = 281 ∨ (x = 268 ∧ (y = 5 ∨ (13 ≤ y ∧ y ≤ 15) ∨ y = 30)) → g1 x y = g x y) : Rel r d N h1 g1 := by
  obtain ⟨q1, q2, q3, q4, q5, q6⟩ := q
  obtain ⟨a1, a2, a3, a4⟩ := q2
  rw [hc] at a2 a3 a4
  have hu := (a4 c.toNat (by omega)).2
  have a : ∀ y : Nat, y < 504 → g1 269 y = cutW (g 272) (504 * c.toNat) y := fun y hy => (g9 y hy).trans (cut_a y hy).symm
  have hs : SameR (g 269) (g1 269) := (hu.a5 a).2.2
  have ge272 : g1 272 = g 272 := funext fun y => ge _ _ (by omega)
  refine ⟨q1.back p hu a, ⟨by rw [p1]; omega, p2.trans g4.symm, by rw [g4]; omega, fun i hi => ?_⟩, q3.to hs (Int.le_refl _) (p.1 _ _ (by decide) (by decide) (by decide)) (fun x y z1 z2 => p.1 x y (by omega) (by omega) (by omega)) (fun y _ => ge _ _ (by omega)) (ge _ _ (by omega)), q4.to (p.1 _ _ (by decide) (by decide) (by decide)) (fun y => p.1 _ _ (by decide) (by decide) (by omega)) (fun y => ge _ _ (by omega)) (ge _ _ (by omega)), ⟨(p.1 _ _ (by decide) (by decide) (by decide)).trans (q5.1.trans (ge _ _ (by omega)).symm), (p.1 _ _ (by decide) (by decide) (by decide)).trans (q5.2.trans (ge _ _ (by omega)).symm)⟩, q6.to (p.1 _ _ (by decide) (by decide) (by decide)) (fun y => p.1 _ _ (by decide) (by decide) (by omega)) (fun y => ge _ _ (by omega)) (ge _ _ (by omega))⟩
  rw [g4] at hi ⊢
  obtain ⟨b1, b2⟩ := a4 i (by omega)
  rw [p1, ge272, show ((h 34 1 + 7) % 8 + 9 + i - c) % 8 = (h 34 1 + 9 + i - (c + 1)) % 8 by omega]
  exact ⟨b1.fr (fun x y z1 z2 => p.1 x y (by omega) (by omega) (by omega)), b2.to hs (Int.le_refl _)⟩
theorem Rel.rest {g g1 h1 : Nat → Nat → Int} (q : Rel r d N h g) (hf : g 268 5 ≠ 0) (p : BkQ h (cutW (g 271) 0) h1) (p1 : h1 34 1 = h 34 1) (p2 : h1 34 2 = 0) (g4 : g1 268 4 = 0) (g9 : ∀ y : Nat, y < 504 → g1 269 y = g 271 y) (ge : ∀ x y, x = 271 ∨ x = 275 ∨ x = 281 ∨ (x = 268 ∧ (y = 5 ∨ (13 ≤ y ∧ y ≤ 15) ∨ y = 30)) → g1 x y = g x y) : Rel r d N h1 g1 := by
  obtain ⟨q1, q2, q3, q4, q5, q6⟩ := q
  obtain ⟨a1, a2, a3, a4⟩ := q2
  have hu := (q3.2 hf).2
  have a : ∀ y : Nat, y < 504 → g1 269 y = cutW (g 271) 0 y := fun y hy => (g9 y hy).trans ((cut_a y hy).trans (congrArg _ (by omega))).symm
  have hs : SameR (g 269) (g1 269) := (hu.a5 a).2.2
  refine ⟨q1.back p hu a, ⟨by rw [p1]; exact a1, p2.trans g4.symm, by rw [g4]; decide, fun i hi => absurd hi (by rw [g4]; omega)⟩, q3.to hs (Int.le_refl _) (p.1 _ _ (by decide) (by decide) (by decide)) (fun x y z1 z2 => p.1 x y (by omega) (by omega) (by omega)) (fun y _ => ge _ _ (by omega)) (ge _ _ (by omega)), q4.to (p.1 _ _ (by decide) (by decide) (by decide)) (fun y => p.1 _ _ (by decide) (by decide) (by omega)) (fun y => ge _ _ (by omega)) (ge _ _ (by omega)), ⟨(p.1 _ _ (by decide) (by decide) (by decide)).trans (q5.1.trans (ge _ _ (by omega)).symm), (p.1 _ _ (by decide) (by decide) (by decide)).trans (q5.2.trans (ge _ _ (by omega)).symm)⟩, q6.to (p.1 _ _ (by decide) (by decide) (by decide)) (fun y => p.1 _ _ (by decide) (by decide) (by omega)) (fun y => ge _ _ (by omega)) (ge _ _ (by omega))⟩
theorem Rel.save {g g1 h1 : Nat → Nat → Int} (q : Rel r d N h g) (p1 : ∀ x y, (x < 21 ∨ 34 ≤ x) → ¬ (x = 1 ∧ y = 13) → h1 x y = h x y) (p2 : RSt h1 21 (g 269)) (p3 : h1 1 13 = 1) (g5 : g1 268 5 = 1) (g7 : ∀ y : Nat, y < 504 → g1 271 y = g 269 y) (ge : ∀ x y, x = 269 ∨ x = 272 ∨ x = 275 ∨ x = 281 ∨ (x = 268 ∧ (y = 4 ∨ (13 ≤ y ∧ y ≤ 15) ∨ y = 30)) → g1 x y = g x y) : Rel r d N h1 g1 := by
  have r0 := q.1.rd
  obtain ⟨q1, q2, q3, q4, q5, q6⟩ := q
  have e9 : g1 269 = g 269 := funext fun y => ge _ _ (by omega)
  have e2 : g1 272 = g 272 := funext fun y => ge _ _ (by omega)
  have a : ∀ y : Nat, y < 504 → cutW (g1 271) 0 y = g 269 y := fun y hy => (cut_a y hy).trans ((g7 _ (by omega)).trans (congrArg _ (by omega)))
  have hok : HOK (g 269) N (g 269) := ⟨q1.2.1.1, q1.2.1.2.1, fun _ _ => rfl⟩
  obtain ⟨a1, a2, a3, a4⟩ := q2
  have h341 : h1 34 1 = h 34 1 := p1 _ _ (by decide) (by decide)
  unfold Rel
  rw [e9, e2, ge 268 4 (by omega)]
  obtain ⟨⟨hr, h40⟩, m2, m3, m4, m5, m6⟩ := q1
  refine ⟨⟨⟨hr, (p1 _ _ (by omega) (by omega)).trans h40⟩, m2, m3, m4.fr m2.1.1.1 (fun x y z1 z2 => p1 x y (by omega) (by omega)), m5.fr (fun x y z1 z2 => p1 x y (by omega) (by omega)), fun z => (m6 (by rw [← p1 143 0 (by decide) (by decide)]; exact z)).fr (fun x y z => p1 x y (by omega) (by omega))⟩, ⟨by rw [h341]; exact a1, (p1 _ _ (by decide) (by decide)).trans a2, a3, fun i hi => ?_⟩, ⟨by rw [p3, g5], fun _ => ⟨p2.a5 m2.1 a, hok.a5 a⟩⟩, q4.to (p1 _ _ (by decide) (by decide)) (fun y => p1 _ _ (by decide) (by omega)) (fun y => ge _ _ (by omega)) (ge _ _ (by omega)), ⟨(p1 _ _ (by decide) (by decide)).trans (q5.1.trans (ge _ _ (by omega)).symm), (p1 _ _ (by decide) (by decide)).trans (q5.2.trans (ge _ _ (by omega)).symm)⟩, q6.to (p1 _ _ (by decide) (by decide)) (fun y => p1 _ _ (by decide) (by omega)) (fun y => ge _ _ (by omega)) (ge _ _ (by omega))⟩
  rw [h341]
  exact ⟨(a4 i hi).1.fr (fun x y z1 z2 => p1 x y (by omega) (by omega)), (a4 i hi).2⟩
/-- nothing that counts has changed in the reference -/
def Qr (g g1 : Nat → Nat → Int) : Prop := ∀ x y, x = 269 ∨ x = 271 ∨ x = 272 ∨ x = 275 ∨ x = 281 ∨ (x = 268 ∧ (y = 4 ∨ y = 5 ∨ (13 ≤ y ∧ y ≤ 15) ∨ y = 30)) → g1 x y = g x y
theorem Rel.qr {g g1 : Nat → Nat → Int} (q : Rel r d N h g) (e : Qr g g1) : Rel r d N h g1 := by
  unfold Rel
  rw [show g1 269 = g 269 from funext fun y => e _ _ (by omega), show g1 272 = g 272 from funext fun y => e _ _ (by omega), show g1 271 = g 271 from funext fun y => e _ _ (by omega), show g1 275 = g 275 from funext fun y => e _ _ (by omega), show g1 281 = g 281 from funext fun y => e _ _ (by omega), e 268 4 (by omega), e 268 5 (by omega), e 268 13 (by omega), e 268 14 (by omega), e 268 15 (by omega), e 268 30 (by omega)]
  exact q
/-- the class's part: the objects before 268; the reference's: the others -/
theorem Rel.both {g h1 g1 : Nat → Nat → Int} (q : Rel r d N h g) (eh : ∀ x y, x < 268 → h1 x y = h x y) (eg : ∀ x y, 268 ≤ x → g1 x y = g x y) : Rel r d N h1 g1 := by
  have r0 := q.1.rd
  have q := q.qr (g1 := g1) (fun x y z => eg x y (by omega))
  obtain ⟨⟨⟨hr, h40⟩, m2, m3, m4, m5, m6⟩, ⟨a1, a2, a3, a4⟩, ⟨c1, c2⟩, ⟨d1, d2, d3, d4⟩, ⟨e1, e2⟩, f1, f2, f3⟩ := q
  have e341 : h1 34 1 = h 34 1 := eh _ _ (by omega)
  refine ⟨⟨⟨hr, (eh _ _ (by omega)).trans h40⟩, m2, m3, m4.fr m2.1.1.1 (fun x y z1 z2 => eh x y (by omega)), m5.fr (fun x y z1 z2 => eh x y (by omega)), fun z => (m6 (by rw [← eh 143 0 (by decide)]; exact z)).fr (fun x y z => eh x y (by omega))⟩, ⟨by rw [e341]; exact a1, (eh _ _ (by omega)).trans a2, a3, fun i hi => ?_⟩, ⟨by rw [eh 1 13 (by omega)]; exact c1, fun z => ⟨(c2 z).1.fr (fun x y z1 z2 => eh x y (by omega)), (c2 z).2⟩⟩, ⟨(eh _ _ (by omega)).trans d1, d2, fun y hy => (eh _ _ (by omega)).trans (d3 y hy), fun y => by rw [eh 3 y (by omega)]; exact d4 y⟩, ⟨(eh _ _ (by omega)).trans e1, (eh _ _ (by omega)).trans e2⟩, (eh _ _ (by omega)).trans f1, f2, fun y hy => (eh _ _ (by omega)).trans (f3 y hy)⟩
  rw [e341]
  exact ⟨(a4 i hi).1.fr (fun x y z1 z2 => eh x y (by omega)), (a4 i hi).2⟩
theorem RelM.lt (q : RelM r d N h w) {h1 : Nat → Nat → Int} (e : ∀ x y, x ≠ 1 → x ≠ 2 → x ≠ 3 → x ≠ 155 → h1 x y = h x y) : RelM r d N h1 w := by
  have r0 := q.rd
  obtain ⟨⟨hr, h40⟩, m2, m3, m4, m5, m6⟩ := q
  exact ⟨⟨hr, (e _ _ (by omega) (by omega) (by omega) (by omega)).trans h40⟩, m2, m3, m4.fr m2.1.1.1 (fun x y z1 z2 => e x y (by omega) (by omega) (by omega) (by omega)), m5.fr (fun x y z1 z2 => e x y (by omega) (by omega) (by omega) (by omega)), fun z => (m6 (by rw [← e 143 0 (by decide) (by decide) (by decide) (by decide)]; exact z)).fr (fun x y z => e x y (by omega) (by omega) (by omega) (by omega))⟩
/-- text, errors, output alone have changed -/
theorem Rel.txt {g g1 h1 : Nat → Nat → Int} (q : Rel r d N h g) (e : ∀ x y, x ≠ 1 → x ≠ 2 → x ≠ 3 → x ≠ 155 → h1 x y = h x y) (e13 : h1 1 13 = h 1 13) (ge : ∀ x y, x = 269 ∨ x = 271 ∨ x = 272 ∨ (x = 268 ∧ (y = 4 ∨ y = 5)) → g1 x y = g x y) (qT : RelT h1 (g1 275) (g1 268 13)) (qE : RelE h1 (g1 268 14) (g1 268 15)) (qO : RelO h1 (g1 281) (g1 268 30)) : Rel r d N h1 g1 := by
  obtain ⟨q1, ⟨a1, a2, a3, a4⟩, q3, -, -, -⟩ := q
  unfold Rel
  have e341 : h1 34 1 = h 34 1 := e _ _ (by omega) (by omega) (by omega) (by omega)
  rw [show g1 269 = g 269 from funext fun y => ge _ _ (by omega), show g1 272 = g 272 from funext fun y => ge _ _ (by omega), show g1 271 = g 271 from funext fun y => ge _ _ (by omega), ge 268 4 (by omega), ge 268 5 (by omega)]
  refine ⟨q1.lt e, ⟨by rw [e341]; exact a1, (e _ _ (by omega) (by omega) (by omega) (by omega)).trans a2, a3, fun i hi => ?_⟩, ⟨by rw [e13]; exact q3.1, fun z => ⟨(q3.2 z).1.fr (fun x y z1 z2 => e x y (by omega) (by omega) (by omega) (by omega)), (q3.2 z).2⟩⟩, qT, qE, qO⟩
  rw [e341]
  exact ⟨(a4 i hi).1.fr (fun x y z1 z2 => e x y (by omega) (by omega) (by omega) (by omega)), (a4 i hi).2⟩
theorem s77 : ev 77 0 [AR 1] [] (KS r d, h, R) = some (.inl (AI (h 1 11)), (KS r d, h, R)) := by
  refine Rn.eq ?_
  have k1 := @kd_1 r d
  refine w_aloadn f77_0 rfl (by omega) ?_
  refine w_getI f77_1 (by decide) (by assumption) (by (try simp only [hput, hcopy, Nat.reduceEqDiff, Nat.add_left_cancel_iff, Nat.add_right_cancel_iff, Nat.left_eq_add, Nat.add_eq_left, Nat.right_eq_add, Nat.add_eq_right, Nat.reduceAdd, Nat.add_zero, Nat.succ_ne_self, Nat.one_ne_zero, Nat.zero_ne_one, eq_self, and_self, and_true, true_and, and_false, false_and, if_true, if_false, reduceIte, Int.reduceToNat, Int.toNat_natCast]); exact rfl) ?_
  refine w_iret f77_4 rfl ?_
  rfl
theorem s78 : ev 78 0 [AR 1] [] (KS r d, h, R) = some (.inl (AI (h 1 12)), (KS r d, h, R)) := by
  refine Rn.eq ?_
  have k1 := @kd_1 r d
  refine w_aloadn f78_0 rfl (by omega) ?_
  refine w_getI f78_1 (by decide) (by assumption) (by (try simp only [hput, hcopy, Nat.reduceEqDiff, Nat.add_left_cancel_iff, Nat.add_right_cancel_iff, Nat.left_eq_add, Nat.add_eq_left, Nat.right_eq_add, Nat.add_eq_right, Nat.reduceAdd, Nat.add_zero, Nat.succ_ne_self, Nat.one_ne_zero, Nat.zero_ne_one, eq_self, and_self, and_true, true_and, and_false, false_and, if_true, if_false, reduceIte, Int.reduceToNat, Int.toNat_natCast]); exact rfl) ?_
  refine w_iret f78_4 rfl ?_
  rfl
end A

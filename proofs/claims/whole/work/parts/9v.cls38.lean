/-! class and reference side by side; what is only read -/
section A
variable {K : List AKd} {h : Nat → Nat → Int} {R : R4} {σ : Sg} {r d : Nat} {w : Nat → Int} {b : Nat → Int} {n N : Int}
/-- the same rules -/
def SameR (w u : Nat → Int) : Prop := ∀ y : Nat, y < 4 ∨ (9 ≤ y ∧ y ≤ 11) ∨ (93 ≤ y ∧ y < 309) ∨ (357 ≤ y ∧ y < 504) → u y = w y
/-- the trace tells the events; what isn't declared was never counted -/
def EX (w : Nat → Int) : Prop := (∀ k : Nat, (k : Int) < w 18 → w (19 + 2 * k) = tr w (w (20 + 2 * k)) 1) ∧ (∀ t : Nat, w 3 ≤ t → t < 24 → w (69 + t) = 0) ∧ ∀ s : Nat, w 0 ≤ s → s < 10 → w (59 + s) = 0
def HOK (w : Nat → Int) (N : Int) (u : Nat → Int) : Prop := WFd u N ∧ EX u ∧ SameR w u
def cutW (f : Nat → Int) (a : Nat) : Nat → Int := fun y => if y < 504 then f (a + y) else 0
/-- the machine now -/
def RelM (r d : Nat) (N : Int) (h : Nat → Nat → Int) (w : Nat → Int) : Prop := (((r = 156 ∧ d = 212) ∨ (r = 212 ∧ d = 156)) ∧ h (d + 40) 0 = 0) ∧ (WFd w N ∧ EX w ∧ True) ∧ (1 ≤ w 0 ∧ 1 ≤ w 1 ∧ 1 ≤ w 2) ∧ CRl h r w ∧ RSt h 8 w ∧ (h 143 0 ≠ 0 → SRs h w)
def RelH (N : Int) (h : Nat → Nat → Int) (w g : Nat → Int) (c : Int) : Prop := (0 ≤ h 34 1 ∧ h 34 1 < 8) ∧ h 34 2 = c ∧ (0 ≤ c ∧ c ≤ 8) ∧ ∀ i : Nat, (i : Int) < c → RSt h (36 + 13 * ((h 34 1 + 9 + i - c) % 8).toNat) (cutW g (504 * i)) ∧ HOK w N (cutW g (504 * i))
def RelS (N : Int) (h : Nat → Nat → Int) (w g : Nat → Int) (f : Int) : Prop := (h 1 13 ≠ 0 ↔ f ≠ 0) ∧ (f ≠ 0 → RSt h 21 (cutW g 0) ∧ HOK w N (cutW g 0))
def RelT (h : Nat → Nat → Int) (g : Nat → Int) (n : Int) : Prop := h 2 1 = n ∧ (0 ≤ n ∧ n ≤ 700) ∧ (∀ y : Nat, (y : Int) < n → h 3 y = g y) ∧ ∀ y, 0 ≤ h 3 y
def RelE (h : Nat → Nat → Int) (a b : Int) : Prop := h 1 11 = a ∧ h 1 12 = b
def RelO (h : Nat → Nat → Int) (g : Nat → Int) (n : Int) : Prop := h 1 10 = n ∧ (0 ≤ n ∧ n ≤ 40) ∧ ∀ y : Nat, (y : Int) < n → h 155 y = g y
def Rel (r d : Nat) (N : Int) (h g : Nat → Nat → Int) : Prop := RelM r d N h (g 269) ∧ RelH N h (g 269) (g 272) (g 268 4) ∧ RelS N h (g 269) (g 271) (g 268 5) ∧ RelT h (g 275) (g 268 13) ∧ RelE h (g 268 14) (g 268 15) ∧ RelO h (g 281) (g 268 30)
theorem RelM.rd (q : RelM r d N h w) : RD2 r ∧ 156 ≤ r := by
  have := q.1.1
  unfold RD2
  omega
/-- the step or the search alone has changed -/
def QtC (h h1 : Nat → Nat → Int) : Prop := ∀ x y, (x < 140 ∨ 155 ≤ x) → h1 x y = h x y
theorem RelM.q {h1 : Nat → Nat → Int} (q : RelM r d N h w) (e : QtC h h1) (hS : h1 143 0 ≠ 0 → SRs h1 w) : RelM r d N h1 w := by
  have r0 := q.rd
  obtain ⟨⟨hr, h40⟩, ⟨hd, hx, hz⟩, hn, qr, qs, qS⟩ := q
  exact ⟨⟨hr, (e _ _ (by omega)).trans h40⟩, ⟨hd, hx, hz⟩, hn, qr.fr hd.1.1 (fun x y z1 z2 => e x y (by omega)), qs.fr (fun x y z1 z2 => e x y (by omega)), hS⟩
theorem Rel.q {h1 g : Nat → Nat → Int} (q : Rel r d N h g) (e : QtC h h1) (hS : h1 143 0 ≠ 0 → SRs h1 (g 269)) : Rel r d N h1 g := by
  obtain ⟨q1, ⟨b1, b2, b3, b4⟩, ⟨c1, c2⟩, ⟨d1, d2, d3, d4⟩, ⟨e1, e2⟩, f1, f2, f3⟩ := q
  have e341 : h1 34 1 = h 34 1 := e _ _ (by omega)
  refine ⟨q1.q e hS, ⟨by rw [e341]; exact b1, (e _ _ (by omega)).trans b2, b3, fun i hi => ?_⟩, ⟨by rw [e 1 13 (by omega)]; exact c1, fun z => ⟨(c2 z).1.fr (fun x y z1 z2 => e x y (by omega)), (c2 z).2⟩⟩, ⟨(e _ _ (by omega)).trans d1, d2, fun y hy => (e _ _ (by omega)).trans (d3 y hy), fun y => by rw [e 3 y (by omega)]; exact d4 y⟩, ⟨(e _ _ (by omega)).trans e1, (e _ _ (by omega)).trans e2⟩, (e _ _ (by omega)).trans f1, f2, fun y hy => (e _ _ (by omega)).trans (f3 y hy)⟩
  rw [e341]
  exact ⟨(b4 i hi).1.fr (fun x y z1 z2 => e x y (by omega)), (b4 i hi).2⟩

theorem s79 (hM : RelM r d N h w) : ev 79 0 [AR 1] [] (KS r d, h, R) = some (.inl (AI (w 0)), (KS r d, h, R)) := by
  refine Rn.eq ?_
  have r0 := hM.rd
  obtain ⟨⟨hr, h40⟩, ⟨hd, hx, hz⟩, hn, qr, qs, qS⟩ := hM
  have hl := shRl (r := r) (d := d) r0.1
  obtain ⟨l1, n1, n2, n3, l5, l6, a0, a1, a2, a3, a4, a5, a6, a7, a8⟩ := id hl
  have n11 := n1.1
  have n21 := n2.1
  have n31 := n3.1
  obtain ⟨l51, l52⟩ := id l5
  have k1 := @kd_1 r d
  have k8 := @kd_8 r d
  have k9 := @kd_9 r d
  have k10 := @kd_10 r d
  have k11 := @kd_11 r d
  have k12 := @kd_12 r d
  have k16 := @kd_16 r d
  have k17 := @kd_17 r d
  have k18 := @kd_18 r d
  have k19 := @kd_19 r d
  have k140 := @kd_140 r d
  have k143 := @kd_143 r d
  have e0 : h (r + 1) 2 = w 0 := qr.1.1.1
  have e1 : h (r + 14) 2 = w 1 := qr.1.2.1.1
  have e2 : h (r + 27) 2 = w 2 := qr.1.2.2.1
  have e3 : h r 5 = w 3 := qr.2.2.1
  have e4 : h 11 0 = w 4 := qs.2.1.1
  obtain ⟨v0, v1, v2, v3, v4⟩ := hd.1.1
  obtain ⟨hd1, hd2⟩ := hW_d hd.2.1
  refine w_aloadn f79_0 rfl (by omega) ?_
  refine w_getR f79_1 (by assumption) rfl (by omega) ?_
  refine w_getR f79_4 (by assumption) rfl (by omega) ?_
  refine w_getI f79_7 (by decide) (by assumption) (by (try simp only [hput, hcopy, Nat.reduceEqDiff, Nat.add_left_cancel_iff, Nat.add_right_cancel_iff, Nat.left_eq_add, Nat.add_eq_left, Nat.right_eq_add, Nat.add_eq_right, Nat.reduceAdd, Nat.add_zero, Nat.succ_ne_self, Nat.one_ne_zero, Nat.zero_ne_one, eq_self, and_self, and_true, true_and, and_false, false_and, if_true, if_false, reduceIte, Int.reduceToNat, Int.toNat_natCast, e0, e1, e2, e3, e4]); exact rfl) ?_
  refine w_iret f79_10 rfl ?_
  rfl
theorem s80 (hM : RelM r d N h w) : ev 80 0 [AR 1] [] (KS r d, h, R) = some (.inl (AI (w 1)), (KS r d, h, R)) := by
  refine Rn.eq ?_
  have r0 := hM.rd
  obtain ⟨⟨hr, h40⟩, ⟨hd, hx, hz⟩, hn, qr, qs, qS⟩ := hM
  have hl := shRl (r := r) (d := d) r0.1
  obtain ⟨l1, n1, n2, n3, l5, l6, a0, a1, a2, a3, a4, a5, a6, a7, a8⟩ := id hl
  have n11 := n1.1
  have n21 := n2.1
  have n31 := n3.1
  obtain ⟨l51, l52⟩ := id l5
  have k1 := @kd_1 r d
  have k8 := @kd_8 r d
  have k9 := @kd_9 r d
  have k10 := @kd_10 r d
  have k11 := @kd_11 r d
  have k12 := @kd_12 r d
  have k16 := @kd_16 r d
  have k17 := @kd_17 r d
  have k18 := @kd_18 r d
  have k19 := @kd_19 r d
  have k140 := @kd_140 r d
  have k143 := @kd_143 r d
  have e0 : h (r + 1) 2 = w 0 := qr.1.1.1
  have e1 : h (r + 14) 2 = w 1 := qr.1.2.1.1
  have e2 : h (r + 27) 2 = w 2 := qr.1.2.2.1
  have e3 : h r 5 = w 3 := qr.2.2.1
  have e4 : h 11 0 = w 4 := qs.2.1.1
  obtain ⟨v0, v1, v2, v3, v4⟩ := hd.1.1
  obtain ⟨hd1, hd2⟩ := hW_d hd.2.1
  refine w_aloadn f80_0 rfl (by omega) ?_
  refine w_getR f80_1 (by assumption) rfl (by omega) ?_
  refine w_getR f80_4 (by assumption) rfl (by omega) ?_
  refine w_getI f80_7 (by decide) (by assumption) (by (try simp only [hput, hcopy, Nat.reduceEqDiff, Nat.add_left_cancel_iff, Nat.add_right_cancel_iff, Nat.left_eq_add, Nat.add_eq_left, Nat.right_eq_add, Nat.add_eq_right, Nat.reduceAdd, Nat.add_zero, Nat.succ_ne_self, Nat.one_ne_zero, Nat.zero_ne_one, eq_self, and_self, and_true, true_and, and_false, false_and, if_true, if_false, reduceIte, Int.reduceToNat, Int.toNat_natCast, e0, e1, e2, e3, e4]); exact rfl) ?_
  refine w_iret f80_10 rfl ?_
  rfl
theorem s81 (hM : RelM r d N h w) : ev 81 0 [AR 1] [] (KS r d, h, R) = some (.inl (AI (w 2)), (KS r d, h, R)) := by
  refine Rn.eq ?_
  have r0 := hM.rd
  obtain ⟨⟨hr, h40⟩, ⟨hd, hx, hz⟩, hn, qr, qs, qS⟩ := hM
  have hl := shRl (r := r) (d := d) r0.1
  obtain ⟨l1, n1, n2, n3, l5, l6, a0, a1, a2, a3, a4, a5, a6, a7, a8⟩ := id hl
  have n11 := n1.1
  have n21 := n2.1
  have n31 := n3.1
  obtain ⟨l51, l52⟩ := id l5
  have k1 := @kd_1 r d
  have k8 := @kd_8 r d
  have k9 := @kd_9 r d
  have k10 := @kd_10 r d
  have k11 := @kd_11 r d
  have k12 := @kd_12 r d
  have k16 := @kd_16 r d
  have k17 := @kd_17 r d
  have k18 := @kd_18 r d
  have k19 := @kd_19 r d
  have k140 := @kd_140 r d
  have k143 := @kd_143 r d
  have e0 : h (r + 1) 2 = w 0 := qr.1.1.1
  have e1 : h (r + 14) 2 = w 1 := qr.1.2.1.1
  have e2 : h (r + 27) 2 = w 2 := qr.1.2.2.1
  have e3 : h r 5 = w 3 := qr.2.2.1
  have e4 : h 11 0 = w 4 := qs.2.1.1
  obtain ⟨v0, v1, v2, v3, v4⟩ := hd.1.1
  obtain ⟨hd1, hd2⟩ := hW_d hd.2.1
  refine w_aloadn f81_0 rfl (by omega) ?_
  refine w_getR f81_1 (by assumption) rfl (by omega) ?_
  refine w_getR f81_4 (by assumption) rfl (by omega) ?_
  refine w_getI f81_7 (by decide) (by assumption) (by (try simp only [hput, hcopy, Nat.reduceEqDiff, Nat.add_left_cancel_iff, Nat.add_right_cancel_iff, Nat.left_eq_add, Nat.add_eq_left, Nat.right_eq_add, Nat.add_eq_right, Nat.reduceAdd, Nat.add_zero, Nat.succ_ne_self, Nat.one_ne_zero, Nat.zero_ne_one, eq_self, and_self, and_true, true_and, and_false, false_and, if_true, if_false, reduceIte, Int.reduceToNat, Int.toNat_natCast, e0, e1, e2, e3, e4]); exact rfl) ?_
  refine w_iret f81_10 rfl ?_
  rfl
theorem s82 (hM : RelM r d N h w) : ev 82 0 [AR 1] [] (KS r d, h, R) = some (.inl (AI (w 3)), (KS r d, h, R)) := by
  refine Rn.eq ?_
  have r0 := hM.rd
  obtain ⟨⟨hr, h40⟩, ⟨hd, hx, hz⟩, hn, qr, qs, qS⟩ := hM
  have hl := shRl (r := r) (d := d) r0.1
  obtain ⟨l1, n1, n2, n3, l5, l6, a0, a1, a2, a3, a4, a5, a6, a7, a8⟩ := id hl
  have n11 := n1.1
  have n21 := n2.1
  have n31 := n3.1
  obtain ⟨l51, l52⟩ := id l5
  have k1 := @kd_1 r d
  have k8 := @kd_8 r d
  have k9 := @kd_9 r d
  have k10 := @kd_10 r d
  have k11 := @kd_11 r d
  have k12 := @kd_12 r d
  have k16 := @kd_16 r d
  have k17 := @kd_17 r d
  have k18 := @kd_18 r d
  have k19 := @kd_19 r d
  have k140 := @kd_140 r d
  have k143 := @kd_143 r d
  have e0 : h (r + 1) 2 = w 0 := qr.1.1.1
  have e1 : h (r + 14) 2 = w 1 := qr.1.2.1.1
  have e2 : h (r + 27) 2 = w 2 := qr.1.2.2.1
  have e3 : h r 5 = w 3 := qr.2.2.1
  have e4 : h 11 0 = w 4 := qs.2.1.1
  obtain ⟨v0, v1, v2, v3, v4⟩ := hd.1.1
  obtain ⟨hd1, hd2⟩ := hW_d hd.2.1
  refine w_aloadn f82_0 rfl (by omega) ?_
  refine w_getR f82_1 (by assumption) rfl (by omega) ?_
  refine w_getI f82_4 (by decide) (by assumption) (by (try simp only [hput, hcopy, Nat.reduceEqDiff, Nat.add_left_cancel_iff, Nat.add_right_cancel_iff, Nat.left_eq_add, Nat.add_eq_left, Nat.right_eq_add, Nat.add_eq_right, Nat.reduceAdd, Nat.add_zero, Nat.succ_ne_self, Nat.one_ne_zero, Nat.zero_ne_one, eq_self, and_self, and_true, true_and, and_false, false_and, if_true, if_false, reduceIte, Int.reduceToNat, Int.toNat_natCast, e0, e1, e2, e3, e4]); exact rfl) ?_
  refine w_iret f82_7 rfl ?_
  rfl
theorem s83 (hM : RelM r d N h w) : ev 83 0 [AR 1] [] (KS r d, h, R) = some (.inl (AI (w 4)), (KS r d, h, R)) := by
  refine Rn.eq ?_
  have r0 := hM.rd
  obtain ⟨⟨hr, h40⟩, ⟨hd, hx, hz⟩, hn, qr, qs, qS⟩ := hM
  have hl := shRl (r := r) (d := d) r0.1
  obtain ⟨l1, n1, n2, n3, l5, l6, a0, a1, a2, a3, a4, a5, a6, a7, a8⟩ := id hl
  have n11 := n1.1
  have n21 := n2.1
  have n31 := n3.1
  obtain ⟨l51, l52⟩ := id l5
  have k1 := @kd_1 r d
  have k8 := @kd_8 r d
  have k9 := @kd_9 r d
  have k10 := @kd_10 r d
  have k11 := @kd_11 r d
  have k12 := @kd_12 r d
  have k16 := @kd_16 r d
  have k17 := @kd_17 r d
  have k18 := @kd_18 r d
  have k19 := @kd_19 r d
  have k140 := @kd_140 r d
  have k143 := @kd_143 r d
  have e0 : h (r + 1) 2 = w 0 := qr.1.1.1
  have e1 : h (r + 14) 2 = w 1 := qr.1.2.1.1
  have e2 : h (r + 27) 2 = w 2 := qr.1.2.2.1
  have e3 : h r 5 = w 3 := qr.2.2.1
  have e4 : h 11 0 = w 4 := qs.2.1.1
  obtain ⟨v0, v1, v2, v3, v4⟩ := hd.1.1
  obtain ⟨hd1, hd2⟩ := hW_d hd.2.1
  refine w_aloadn f83_0 rfl (by omega) ?_
  refine w_getR f83_1 (by assumption) rfl (by omega) ?_
  refine w_getR f83_4 (by assumption) rfl (by omega) ?_
  refine w_getI f83_7 (by decide) (by assumption) (by (try simp only [hput, hcopy, Nat.reduceEqDiff, Nat.add_left_cancel_iff, Nat.add_right_cancel_iff, Nat.left_eq_add, Nat.add_eq_left, Nat.right_eq_add, Nat.add_eq_right, Nat.reduceAdd, Nat.add_zero, Nat.succ_ne_self, Nat.one_ne_zero, Nat.zero_ne_one, eq_self, and_self, and_true, true_and, and_false, false_and, if_true, if_false, reduceIte, Int.reduceToNat, Int.toNat_natCast, e0, e1, e2, e3, e4]); exact rfl) ?_
  refine w_iret f83_10 rfl ?_
  rfl
theorem s87 (hM : RelM r d N h w) : ev 87 0 [AR 1] [] (KS r d, h, R) = some (.inl (AI (w 5)), (KS r d, h, R)) := by
  refine Rn.eq ?_
  have r0 := hM.rd
  obtain ⟨⟨hr, h40⟩, ⟨hd, hx, hz⟩, hn, qr, qs, qS⟩ := hM
  have hl := shRl (r := r) (d := d) r0.1
  obtain ⟨l1, n1, n2, n3, l5, l6, a0, a1, a2, a3, a4, a5, a6, a7, a8⟩ := id hl
  have n11 := n1.1
  have n21 := n2.1
  have n31 := n3.1
  obtain ⟨l51, l52⟩ := id l5
  have k1 := @kd_1 r d
  have k8 := @kd_8 r d
  have k9 := @kd_9 r d
  have k10 := @kd_10 r d
  have k11 := @kd_11 r d
  have k12 := @kd_12 r d
  have k16 := @kd_16 r d
  have k17 := @kd_17 r d
  have k18 := @kd_18 r d
  have k19 := @kd_19 r d
  have k140 := @kd_140 r d
  have k143 := @kd_143 r d
  have e0 : h (r + 1) 2 = w 0 := qr.1.1.1
  have e1 : h (r + 14) 2 = w 1 := qr.1.2.1.1
  have e2 : h (r + 27) 2 = w 2 := qr.1.2.2.1
  have e3 : h r 5 = w 3 := qr.2.2.1
  have e4 : h 11 0 = w 4 := qs.2.1.1
  obtain ⟨v0, v1, v2, v3, v4⟩ := hd.1.1
  obtain ⟨hd1, hd2⟩ := hW_d hd.2.1
  have z : h 9 0 = w 5 := qs.1.1.trans hd1
  refine w_aloadn f87_0 rfl (by omega) ?_
  refine w_getR f87_1 (by assumption) rfl (by omega) ?_
  refine w_getR f87_4 (by assumption) rfl (by omega) ?_
  refine w_getI f87_7 (by decide) (by assumption) (by exact z) ?_
  refine w_iret f87_10 rfl ?_
  rfl
theorem s103 (hM : RelM r d N h w) : ev 103 0 [AR 1] [] (KS r d, h, R) = some (.inl (AI (w 12)), (KS r d, h, R)) := by
  refine Rn.eq ?_
  have r0 := hM.rd
  obtain ⟨⟨hr, h40⟩, ⟨hd, hx, hz⟩, hn, qr, qs, qS⟩ := hM
  have hl := shRl (r := r) (d := d) r0.1
  obtain ⟨l1, n1, n2, n3, l5, l6, a0, a1, a2, a3, a4, a5, a6, a7, a8⟩ := id hl
  have n11 := n1.1
  have n21 := n2.1
  have n31 := n3.1
  obtain ⟨l51, l52⟩ := id l5
  have k1 := @kd_1 r d
  have k8 := @kd_8 r d
  have k9 := @kd_9 r d
  have k10 := @kd_10 r d
  have k11 := @kd_11 r d
  have k12 := @kd_12 r d
  have k16 := @kd_16 r d
  have k17 := @kd_17 r d
  have k18 := @kd_18 r d
  have k19 := @kd_19 r d
  have k140 := @kd_140 r d
  have k143 := @kd_143 r d
  have e0 : h (r + 1) 2 = w 0 := qr.1.1.1
  have e1 : h (r + 14) 2 = w 1 := qr.1.2.1.1
  have e2 : h (r + 27) 2 = w 2 := qr.1.2.2.1
  have e3 : h r 5 = w 3 := qr.2.2.1
  have e4 : h 11 0 = w 4 := qs.2.1.1
  obtain ⟨v0, v1, v2, v3, v4⟩ := hd.1.1
  obtain ⟨hd1, hd2⟩ := hW_d hd.2.1
  have z : h 16 3 = w 12 := qs.2.2.1.1
  refine w_aloadn f103_0 rfl (by omega) ?_
  refine w_getR f103_1 (by assumption) rfl (by omega) ?_
  refine w_getR f103_4 (by assumption) rfl (by omega) ?_
  refine w_getI f103_7 (by decide) (by assumption) (by exact z) ?_
  refine w_iret f103_10 rfl ?_
  rfl
theorem s104 (hM : RelM r d N h w) : ev 104 0 [AR 1] [] (KS r d, h, R) = some (.inl (AI (w 17)), (KS r d, h, R)) := by
  refine Rn.eq ?_
  have r0 := hM.rd
  obtain ⟨⟨hr, h40⟩, ⟨hd, hx, hz⟩, hn, qr, qs, qS⟩ := hM
  have hl := shRl (r := r) (d := d) r0.1
  obtain ⟨l1, n1, n2, n3, l5, l6, a0, a1, a2, a3, a4, a5, a6, a7, a8⟩ := id hl
  have n11 := n1.1
  have n21 := n2.1
  have n31 := n3.1
  obtain ⟨l51, l52⟩ := id l5
  have k1 := @kd_1 r d
  have k8 := @kd_8 r d
  have k9 := @kd_9 r d
  have k10 := @kd_10 r d
  have k11 := @kd_11 r d
  have k12 := @kd_12 r d
  have k16 := @kd_16 r d
  have k17 := @kd_17 r d
  have k18 := @kd_18 r d
  have k19 := @kd_19 r d
  have k140 := @kd_140 r d
  have k143 := @kd_143 r d
  have e0 : h (r + 1) 2 = w 0 := qr.1.1.1
  have e1 : h (r + 14) 2 = w 1 := qr.1.2.1.1
  have e2 : h (r + 27) 2 = w 2 := qr.1.2.2.1
  have e3 : h r 5 = w 3 := qr.2.2.1
  have e4 : h 11 0 = w 4 := qs.2.1.1
  obtain ⟨v0, v1, v2, v3, v4⟩ := hd.1.1
  obtain ⟨hd1, hd2⟩ := hW_d hd.2.1
  have z : h 16 4 = w 17 := qs.2.2.1.2.1
  refine w_aloadn f104_0 rfl (by omega) ?_
  refine w_getR f104_1 (by assumption) rfl (by omega) ?_
  refine w_getR f104_4 (by assumption) rfl (by omega) ?_
  refine w_getI f104_7 (by decide) (by assumption) (by exact z) ?_
  refine w_iret f104_10 rfl ?_
  rfl
theorem s110 (hM : RelM r d N h w) : ev 110 0 [AR 1] [] (KS r d, h, R) = some (.inl (AI (w 18)), (KS r d, h, R)) := by
  refine Rn.eq ?_
  have r0 := hM.rd
  obtain ⟨⟨hr, h40⟩, ⟨hd, hx, hz⟩, hn, qr, qs, qS⟩ := hM
  have hl := shRl (r := r) (d := d) r0.1
  obtain ⟨l1, n1, n2, n3, l5, l6, a0, a1, a2, a3, a4, a5, a6, a7, a8⟩ := id hl
  have n11 := n1.1
  have n21 := n2.1
  have n31 := n3.1
  obtain ⟨l51, l52⟩ := id l5
  have k1 := @kd_1 r d
  have k8 := @kd_8 r d
  have k9 := @kd_9 r d
  have k10 := @kd_10 r d
  have k11 := @kd_11 r d
  have k12 := @kd_12 r d
  have k16 := @kd_16 r d
  have k17 := @kd_17 r d
  have k18 := @kd_18 r d
  have k19 := @kd_19 r d
  have k140 := @kd_140 r d
  have k143 := @kd_143 r d
  have e0 : h (r + 1) 2 = w 0 := qr.1.1.1
  have e1 : h (r + 14) 2 = w 1 := qr.1.2.1.1
  have e2 : h (r + 27) 2 = w 2 := qr.1.2.2.1
  have e3 : h r 5 = w 3 := qr.2.2.1
  have e4 : h 11 0 = w 4 := qs.2.1.1
  obtain ⟨v0, v1, v2, v3, v4⟩ := hd.1.1
  obtain ⟨hd1, hd2⟩ := hW_d hd.2.1
  have z : h 16 6 = w 18 := qs.2.2.1.2.2
  refine w_aloadn f110_0 rfl (by omega) ?_
  refine w_getR f110_1 (by assumption) rfl (by omega) ?_
  refine w_getR f110_4 (by assumption) rfl (by omega) ?_
  refine w_getI f110_7 (by decide) (by assumption) (by exact z) ?_
  refine w_iret f110_10 rfl ?_
  rfl
theorem s88t {i : Int} (hM : RelM r d N h w) (hi : 0 ≤ i ∧ i < w 2) : ev 88 0 [AR 1, AI i] [] (KS r d, h, R) = some (.inl (AI (w (6 + i).toNat)), (KS r d, h, R)) := by
  refine Rn.eq ?_
  have r0 := hM.rd
  obtain ⟨⟨hr, h40⟩, ⟨hd, hx, hz⟩, hn, qr, qs, qS⟩ := hM
  have hl := shRl (r := r) (d := d) r0.1
  obtain ⟨l1, n1, n2, n3, l5, l6, a0, a1, a2, a3, a4, a5, a6, a7, a8⟩ := id hl
  have n11 := n1.1
  have n21 := n2.1
  have n31 := n3.1
  obtain ⟨l51, l52⟩ := id l5
  have k1 := @kd_1 r d
  have k8 := @kd_8 r d
  have k9 := @kd_9 r d
  have k10 := @kd_10 r d
  have k11 := @kd_11 r d
  have k12 := @kd_12 r d
  have k16 := @kd_16 r d
  have k17 := @kd_17 r d
  have k18 := @kd_18 r d
  have k19 := @kd_19 r d
  have k140 := @kd_140 r d
  have k143 := @kd_143 r d
  have e0 : h (r + 1) 2 = w 0 := qr.1.1.1
  have e1 : h (r + 14) 2 = w 1 := qr.1.2.1.1
  have e2 : h (r + 27) 2 = w 2 := qr.1.2.2.1
  have e3 : h r 5 = w 3 := qr.2.2.1
  have e4 : h 11 0 = w 4 := qs.2.1.1
  obtain ⟨v0, v1, v2, v3, v4⟩ := hd.1.1
  obtain ⟨hd1, hd2⟩ := hW_d hd.2.1
  have z : h 10 i.toNat = w (6 + i).toNat := (qs.1.v ⟨hi.1, by omega⟩).trans (hd2 i hi.1 (by omega))
  refine w_iloadn f88_0 rfl ?_
  refine w_aloadn f88_1 rfl (by omega) ?_
  refine w_getR f88_2 (by assumption) rfl (by omega) ?_
  refine w_getR f88_5 (by assumption) rfl (by omega) ?_
  refine w_getI f88_8 (by decide) (by assumption) (by (try simp only [hput, hcopy, Nat.reduceEqDiff, Nat.add_left_cancel_iff, Nat.add_right_cancel_iff, Nat.left_eq_add, Nat.add_eq_left, Nat.right_eq_add, Nat.add_eq_right, Nat.reduceAdd, Nat.add_zero, Nat.succ_ne_self, Nat.one_ne_zero, Nat.zero_ne_one, eq_self, and_self, and_true, true_and, and_false, false_and, if_true, if_false, reduceIte, Int.reduceToNat, Int.toNat_natCast, e0, e1, e2, e3, e4]); exact rfl) ?_
  refine w_xS f88_11 (Or.inl rfl) (Nat.le_of_ble_eq_true rfl) rfl rfl ⟨Nat.le_of_ble_eq_true rfl, rfl, Nat.le_of_ble_eq_true rfl⟩ (en132 _ _) rfl rfl (s132) (pv132 _ _) (fun c1 => ?_) (fun c1 => ?_)
  · refine w_aloadn f88_14 rfl (by omega) ?_
    refine w_getR f88_15 (by assumption) rfl (by omega) ?_
    refine w_getR f88_18 (by assumption) rfl (by omega) ?_
    refine w_getR f88_21 (by assumption) rfl (by omega) ?_
    refine w_iloadn f88_24 rfl ?_
    refine w_iald f88_25 (by assumption) (by omega) (by exact z) ?_
    refine w_iret f88_26 rfl ?_
    rfl
  · exact absurd hi (by assumption)
theorem s88f {i : Int} (hM : RelM r d N h w) (hi : ¬ (0 ≤ i ∧ i < w 2)) : ev 88 0 [AR 1, AI i] [] (KS r d, h, R) = some (.inr 0, bump (KS r d, h, R)) := by
  refine Rn.eq ?_
  have r0 := hM.rd
  obtain ⟨⟨hr, h40⟩, ⟨hd, hx, hz⟩, hn, qr, qs, qS⟩ := hM
  have hl := shRl (r := r) (d := d) r0.1
  obtain ⟨l1, n1, n2, n3, l5, l6, a0, a1, a2, a3, a4, a5, a6, a7, a8⟩ := id hl
  have n11 := n1.1
  have n21 := n2.1
  have n31 := n3.1
  obtain ⟨l51, l52⟩ := id l5
  have k1 := @kd_1 r d
  have k8 := @kd_8 r d
  have k9 := @kd_9 r d
  have k10 := @kd_10 r d
  have k11 := @kd_11 r d
  have k12 := @kd_12 r d
  have k16 := @kd_16 r d
  have k17 := @kd_17 r d
  have k18 := @kd_18 r d
  have k19 := @kd_19 r d
  have k140 := @kd_140 r d
  have k143 := @kd_143 r d
  have e0 : h (r + 1) 2 = w 0 := qr.1.1.1
  have e1 : h (r + 14) 2 = w 1 := qr.1.2.1.1
  have e2 : h (r + 27) 2 = w 2 := qr.1.2.2.1
  have e3 : h r 5 = w 3 := qr.2.2.1
  have e4 : h 11 0 = w 4 := qs.2.1.1
  obtain ⟨v0, v1, v2, v3, v4⟩ := hd.1.1
  obtain ⟨hd1, hd2⟩ := hW_d hd.2.1
  refine w_iloadn f88_0 rfl ?_
  refine w_aloadn f88_1 rfl (by omega) ?_
  refine w_getR f88_2 (by assumption) rfl (by omega) ?_
  refine w_getR f88_5 (by assumption) rfl (by omega) ?_
  refine w_getI f88_8 (by decide) (by assumption) (by (try simp only [hput, hcopy, Nat.reduceEqDiff, Nat.add_left_cancel_iff, Nat.add_right_cancel_iff, Nat.left_eq_add, Nat.add_eq_left, Nat.right_eq_add, Nat.add_eq_right, Nat.reduceAdd, Nat.add_zero, Nat.succ_ne_self, Nat.one_ne_zero, Nat.zero_ne_one, eq_self, and_self, and_true, true_and, and_false, false_and, if_true, if_false, reduceIte, Int.reduceToNat, Int.toNat_natCast, e0, e1, e2, e3, e4]); exact rfl) ?_
  refine w_xS f88_11 (Or.inl rfl) (Nat.le_of_ble_eq_true rfl) rfl rfl ⟨Nat.le_of_ble_eq_true rfl, rfl, Nat.le_of_ble_eq_true rfl⟩ (en132 _ _) rfl rfl (s132) (pv132 _ _) (fun c1 => ?_) (fun c1 => ?_)
  · exact absurd (by assumption) hi
  · rfl
theorem s89t {i : Int} (hM : RelM r d N h w) (hi : 0 ≤ i ∧ i < w 2) : ev 89 0 [AR 1, AI i] [] (KS r d, h, R) = some (.inl (AI (w (9 + i).toNat)), (KS r d, h, R)) := by
  refine Rn.eq ?_
  have r0 := hM.rd
  obtain ⟨⟨hr, h40⟩, ⟨hd, hx, hz⟩, hn, qr, qs, qS⟩ := hM
  have hl := shRl (r := r) (d := d) r0.1
  obtain ⟨l1, n1, n2, n3, l5, l6, a0, a1, a2, a3, a4, a5, a6, a7, a8⟩ := id hl
  have n11 := n1.1
  have n21 := n2.1
  have n31 := n3.1
  obtain ⟨l51, l52⟩ := id l5
  have k1 := @kd_1 r d
  have k8 := @kd_8 r d
  have k9 := @kd_9 r d
  have k10 := @kd_10 r d
  have k11 := @kd_11 r d
  have k12 := @kd_12 r d
  have k16 := @kd_16 r d
  have k17 := @kd_17 r d
  have k18 := @kd_18 r d
  have k19 := @kd_19 r d
  have k140 := @kd_140 r d
  have k143 := @kd_143 r d
  have e0 : h (r + 1) 2 = w 0 := qr.1.1.1
  have e1 : h (r + 14) 2 = w 1 := qr.1.2.1.1
  have e2 : h (r + 27) 2 = w 2 := qr.1.2.2.1
  have e3 : h r 5 = w 3 := qr.2.2.1
  have e4 : h 11 0 = w 4 := qs.2.1.1
  obtain ⟨v0, v1, v2, v3, v4⟩ := hd.1.1
  obtain ⟨hd1, hd2⟩ := hW_d hd.2.1
  have wi := hd.1.2.1
  obtain ⟨-, y0, y1, y2, -⟩ := stW_v (wi 0 (by decide) (by decide)) (wi 1 (by decide) (by decide)) (wi 2 (by decide) (by decide))
  have z : h (r + 41) i.toNat = w (9 + i).toNat := by
    refine (qr.2.1.v (i := i) ⟨hi.1, by omega⟩).trans ?_
    rcases (show i = 0 ∨ i = 1 ∨ i = 2 by omega) with rfl | rfl | rfl
    · exact y0
    · exact y1
    · exact y2
  refine w_iloadn f89_0 rfl ?_
  refine w_aloadn f89_1 rfl (by omega) ?_
  refine w_getR f89_2 (by assumption) rfl (by omega) ?_
  refine w_getR f89_5 (by assumption) rfl (by omega) ?_
  refine w_getI f89_8 (by decide) (by assumption) (by (try simp only [hput, hcopy, Nat.reduceEqDiff, Nat.add_left_cancel_iff, Nat.add_right_cancel_iff, Nat.left_eq_add, Nat.add_eq_left, Nat.right_eq_add, Nat.add_eq_right, Nat.reduceAdd, Nat.add_zero, Nat.succ_ne_self, Nat.one_ne_zero, Nat.zero_ne_one, eq_self, and_self, and_true, true_and, and_false, false_and, if_true, if_false, reduceIte, Int.reduceToNat, Int.toNat_natCast, e0, e1, e2, e3, e4]); exact rfl) ?_
  refine w_xS f89_11 (Or.inl rfl) (Nat.le_of_ble_eq_true rfl) rfl rfl ⟨Nat.le_of_ble_eq_true rfl, rfl, Nat.le_of_ble_eq_true rfl⟩ (en132 _ _) rfl rfl (s132) (pv132 _ _) (fun c1 => ?_) (fun c1 => ?_)
  · refine w_aloadn f89_14 rfl (by omega) ?_
    refine w_getR f89_15 (by assumption) rfl (by omega) ?_
    refine w_getR f89_18 (by assumption) rfl (by omega) ?_
    refine w_getR f89_21 (by assumption) rfl (by omega) ?_
    refine w_iloadn f89_24 rfl ?_
    refine w_iald f89_25 (by assumption) (by omega) (by exact z) ?_
    refine w_iret f89_26 rfl ?_
    rfl
  · exact absurd hi (by assumption)
theorem s89f {i : Int} (hM : RelM r d N h w) (hi : ¬ (0 ≤ i ∧ i < w 2)) : ev 89 0 [AR 1, AI i] [] (KS r d, h, R) = some (.inr 0, bump (KS r d, h, R)) := by
  refine Rn.eq ?_
  have r0 := hM.rd
  obtain ⟨⟨hr, h40⟩, ⟨hd, hx, hz⟩, hn, qr, qs, qS⟩ := hM
  have hl := shRl (r := r) (d := d) r0.1
  obtain ⟨l1, n1, n2, n3, l5, l6, a0, a1, a2, a3, a4, a5, a6, a7, a8⟩ := id hl
  have n11 := n1.1
  have n21 := n2.1
  have n31 := n3.1
  obtain ⟨l51, l52⟩ := id l5
  have k1 := @kd_1 r d
  have k8 := @kd_8 r d
  have k9 := @kd_9 r d
  have k10 := @kd_10 r d
  have k11 := @kd_11 r d
  have k12 := @kd_12 r d
  have k16 := @kd_16 r d
  have k17 := @kd_17 r d
  have k18 := @kd_18 r d
  have k19 := @kd_19 r d
  have k140 := @kd_140 r d
  have k143 := @kd_143 r d
  have e0 : h (r + 1) 2 = w 0 := qr.1.1.1
  have e1 : h (r + 14) 2 = w 1 := qr.1.2.1.1
  have e2 : h (r + 27) 2 = w 2 := qr.1.2.2.1
  have e3 : h r 5 = w 3 := qr.2.2.1
  have e4 : h 11 0 = w 4 := qs.2.1.1
  obtain ⟨v0, v1, v2, v3, v4⟩ := hd.1.1
  obtain ⟨hd1, hd2⟩ := hW_d hd.2.1
  refine w_iloadn f89_0 rfl ?_
  refine w_aloadn f89_1 rfl (by omega) ?_
  refine w_getR f89_2 (by assumption) rfl (by omega) ?_
  refine w_getR f89_5 (by assumption) rfl (by omega) ?_
  refine w_getI f89_8 (by decide) (by assumption) (by (try simp only [hput, hcopy, Nat.reduceEqDiff, Nat.add_left_cancel_iff, Nat.add_right_cancel_iff, Nat.left_eq_add, Nat.add_eq_left, Nat.right_eq_add, Nat.add_eq_right, Nat.reduceAdd, Nat.add_zero, Nat.succ_ne_self, Nat.one_ne_zero, Nat.zero_ne_one, eq_self, and_self, and_true, true_and, and_false, false_and, if_true, if_false, reduceIte, Int.reduceToNat, Int.toNat_natCast, e0, e1, e2, e3, e4]); exact rfl) ?_
  refine w_xS f89_11 (Or.inl rfl) (Nat.le_of_ble_eq_true rfl) rfl rfl ⟨Nat.le_of_ble_eq_true rfl, rfl, Nat.le_of_ble_eq_true rfl⟩ (en132 _ _) rfl rfl (s132) (pv132 _ _) (fun c1 => ?_) (fun c1 => ?_)
  · exact absurd (by assumption) hi
  · rfl
theorem s90t {i : Int} (hM : RelM r d N h w) (hi : 0 ≤ i ∧ i < w 3) : ev 90 0 [AR 1, AI i] [] (KS r d, h, R) = some (.inl (AI (tr w i 0)), (KS r d, h, R)) := by
  refine Rn.eq ?_
  have r0 := hM.rd
  obtain ⟨⟨hr, h40⟩, ⟨hd, hx, hz⟩, hn, qr, qs, qS⟩ := hM
  have hl := shRl (r := r) (d := d) r0.1
  obtain ⟨l1, n1, n2, n3, l5, l6, a0, a1, a2, a3, a4, a5, a6, a7, a8⟩ := id hl
  have n11 := n1.1
  have n21 := n2.1
  have n31 := n3.1
  obtain ⟨l51, l52⟩ := id l5
  have k1 := @kd_1 r d
  have k8 := @kd_8 r d
  have k9 := @kd_9 r d
  have k10 := @kd_10 r d
  have k11 := @kd_11 r d
  have k12 := @kd_12 r d
  have k16 := @kd_16 r d
  have k17 := @kd_17 r d
  have k18 := @kd_18 r d
  have k19 := @kd_19 r d
  have k140 := @kd_140 r d
  have k143 := @kd_143 r d
  have e0 : h (r + 1) 2 = w 0 := qr.1.1.1
  have e1 : h (r + 14) 2 = w 1 := qr.1.2.1.1
  have e2 : h (r + 27) 2 = w 2 := qr.1.2.2.1
  have e3 : h r 5 = w 3 := qr.2.2.1
  have e4 : h 11 0 = w 4 := qs.2.1.1
  obtain ⟨v0, v1, v2, v3, v4⟩ := hd.1.1
  obtain ⟨hd1, hd2⟩ := hW_d hd.2.1
  have z := (qr.2.2.v hi).1
  refine w_iloadn f90_0 rfl ?_
  refine w_aloadn f90_1 rfl (by omega) ?_
  refine w_getR f90_2 (by assumption) rfl (by omega) ?_
  refine w_getI f90_5 (by decide) (by assumption) (by (try simp only [hput, hcopy, Nat.reduceEqDiff, Nat.add_left_cancel_iff, Nat.add_right_cancel_iff, Nat.left_eq_add, Nat.add_eq_left, Nat.right_eq_add, Nat.add_eq_right, Nat.reduceAdd, Nat.add_zero, Nat.succ_ne_self, Nat.one_ne_zero, Nat.zero_ne_one, eq_self, and_self, and_true, true_and, and_false, false_and, if_true, if_false, reduceIte, Int.reduceToNat, Int.toNat_natCast, e0, e1, e2, e3, e4]); exact rfl) ?_
  refine w_xS f90_8 (Or.inl rfl) (Nat.le_of_ble_eq_true rfl) rfl rfl ⟨Nat.le_of_ble_eq_true rfl, rfl, Nat.le_of_ble_eq_true rfl⟩ (en132 _ _) rfl rfl (s132) (pv132 _ _) (fun c1 => ?_) (fun c1 => ?_)
  · refine w_aloadn f90_11 rfl (by omega) ?_
    refine w_getR f90_12 (by assumption) rfl (by omega) ?_
    refine w_getR f90_15 (by assumption) rfl (by omega) ?_
    refine w_iloadn f90_18 rfl ?_
    refine w_iald f90_19 (by assumption) (by omega) (by exact z.1) ?_
    refine w_iret f90_20 rfl ?_
    rfl
  · exact absurd hi (by assumption)
theorem s90f {i : Int} (hM : RelM r d N h w) (hi : ¬ (0 ≤ i ∧ i < w 3)) : ev 90 0 [AR 1, AI i] [] (KS r d, h, R) = some (.inr 0, bump (KS r d, h, R)) := by
  refine Rn.eq ?_
  have r0 := hM.rd
  obtain ⟨⟨hr, h40⟩, ⟨hd, hx, hz⟩, hn, qr, qs, qS⟩ := hM
  have hl := shRl (r := r) (d := d) r0.1
  obtain ⟨l1, n1, n2, n3, l5, l6, a0, a1, a2, a3, a4, a5, a6, a7, a8⟩ := id hl
  have n11 := n1.1
  have n21 := n2.1
  have n31 := n3.1
  obtain ⟨l51, l52⟩ := id l5
  have k1 := @kd_1 r d
  have k8 := @kd_8 r d
  have k9 := @kd_9 r d
  have k10 := @kd_10 r d
  have k11 := @kd_11 r d
  have k12 := @kd_12 r d
  have k16 := @kd_16 r d
  have k17 := @kd_17 r d
  have k18 := @kd_18 r d
  have k19 := @kd_19 r d
  have k140 := @kd_140 r d
  have k143 := @kd_143 r d
  have e0 : h (r + 1) 2 = w 0 := qr.1.1.1
  have e1 : h (r + 14) 2 = w 1 := qr.1.2.1.1
  have e2 : h (r + 27) 2 = w 2 := qr.1.2.2.1
  have e3 : h r 5 = w 3 := qr.2.2.1
  have e4 : h 11 0 = w 4 := qs.2.1.1
  obtain ⟨v0, v1, v2, v3, v4⟩ := hd.1.1
  obtain ⟨hd1, hd2⟩ := hW_d hd.2.1
  refine w_iloadn f90_0 rfl ?_
  refine w_aloadn f90_1 rfl (by omega) ?_
  refine w_getR f90_2 (by assumption) rfl (by omega) ?_
  refine w_getI f90_5 (by decide) (by assumption) (by (try simp only [hput, hcopy, Nat.reduceEqDiff, Nat.add_left_cancel_iff, Nat.add_right_cancel_iff, Nat.left_eq_add, Nat.add_eq_left, Nat.right_eq_add, Nat.add_eq_right, Nat.reduceAdd, Nat.add_zero, Nat.succ_ne_self, Nat.one_ne_zero, Nat.zero_ne_one, eq_self, and_self, and_true, true_and, and_false, false_and, if_true, if_false, reduceIte, Int.reduceToNat, Int.toNat_natCast, e0, e1, e2, e3, e4]); exact rfl) ?_
  refine w_xS f90_8 (Or.inl rfl) (Nat.le_of_ble_eq_true rfl) rfl rfl ⟨Nat.le_of_ble_eq_true rfl, rfl, Nat.le_of_ble_eq_true rfl⟩ (en132 _ _) rfl rfl (s132) (pv132 _ _) (fun c1 => ?_) (fun c1 => ?_)
  · exact absurd (by assumption) hi
  · rfl
theorem s91t {i : Int} (hM : RelM r d N h w) (hi : 0 ≤ i ∧ i < w 3) : ev 91 0 [AR 1, AI i] [] (KS r d, h, R) = some (.inl (AI (tr w i 1)), (KS r d, h, R)) := by
  refine Rn.eq ?_
  have r0 := hM.rd
  obtain ⟨⟨hr, h40⟩, ⟨hd, hx, hz⟩, hn, qr, qs, qS⟩ := hM
  have hl := shRl (r := r) (d := d) r0.1
  obtain ⟨l1, n1, n2, n3, l5, l6, a0, a1, a2, a3, a4, a5, a6, a7, a8⟩ := id hl
  have n11 := n1.1
  have n21 := n2.1
  have n31 := n3.1
  obtain ⟨l51, l52⟩ := id l5
  have k1 := @kd_1 r d
  have k8 := @kd_8 r d
  have k9 := @kd_9 r d
  have k10 := @kd_10 r d
  have k11 := @kd_11 r d
  have k12 := @kd_12 r d
  have k16 := @kd_16 r d
  have k17 := @kd_17 r d
  have k18 := @kd_18 r d
  have k19 := @kd_19 r d
  have k140 := @kd_140 r d
  have k143 := @kd_143 r d
  have e0 : h (r + 1) 2 = w 0 := qr.1.1.1
  have e1 : h (r + 14) 2 = w 1 := qr.1.2.1.1
  have e2 : h (r + 27) 2 = w 2 := qr.1.2.2.1
  have e3 : h r 5 = w 3 := qr.2.2.1
  have e4 : h 11 0 = w 4 := qs.2.1.1
  obtain ⟨v0, v1, v2, v3, v4⟩ := hd.1.1
  obtain ⟨hd1, hd2⟩ := hW_d hd.2.1
  have z := (qr.2.2.v hi).1
  refine w_iloadn f91_0 rfl ?_
  refine w_aloadn f91_1 rfl (by omega) ?_
  refine w_getR f91_2 (by assumption) rfl (by omega) ?_
  refine w_getI f91_5 (by decide) (by assumption) (by (try simp only [hput, hcopy, Nat.reduceEqDiff, Nat.add_left_cancel_iff, Nat.add_right_cancel_iff, Nat.left_eq_add, Nat.add_eq_left, Nat.right_eq_add, Nat.add_eq_right, Nat.reduceAdd, Nat.add_zero, Nat.succ_ne_self, Nat.one_ne_zero, Nat.zero_ne_one, eq_self, and_self, and_true, true_and, and_false, false_and, if_true, if_false, reduceIte, Int.reduceToNat, Int.toNat_natCast, e0, e1, e2, e3, e4]); exact rfl) ?_
  refine w_xS f91_8 (Or.inl rfl) (Nat.le_of_ble_eq_true rfl) rfl rfl ⟨Nat.le_of_ble_eq_true rfl, rfl, Nat.le_of_ble_eq_true rfl⟩ (en132 _ _) rfl rfl (s132) (pv132 _ _) (fun c1 => ?_) (fun c1 => ?_)
  · refine w_aloadn f91_11 rfl (by omega) ?_
    refine w_getR f91_12 (by assumption) rfl (by omega) ?_
    refine w_getR f91_15 (by assumption) rfl (by omega) ?_
    refine w_iloadn f91_18 rfl ?_
    refine w_iald f91_19 (by assumption) (by omega) (by exact z.2.1) ?_
    refine w_iret f91_20 rfl ?_
    rfl
  · exact absurd hi (by assumption)
theorem s91f {i : Int} (hM : RelM r d N h w) (hi : ¬ (0 ≤ i ∧ i < w 3)) : ev 91 0 [AR 1, AI i] [] (KS r d, h, R) = some (.inr 0, bump (KS r d, h, R)) := by
  refine Rn.eq ?_
  have r0 := hM.rd
  obtain ⟨⟨hr, h40⟩, ⟨hd, hx, hz⟩, hn, qr, qs, qS⟩ := hM
  have hl := shRl (r := r) (d := d) r0.1
  obtain ⟨l1, n1, n2, n3, l5, l6, a0, a1, a2, a3, a4, a5, a6, a7, a8⟩ := id hl
  have n11 := n1.1
  have n21 := n2.1
  have n31 := n3.1
  obtain ⟨l51, l52⟩ := id l5
  have k1 := @kd_1 r d
  have k8 := @kd_8 r d
  have k9 := @kd_9 r d
  have k10 := @kd_10 r d
  have k11 := @kd_11 r d
  have k12 := @kd_12 r d
  have k16 := @kd_16 r d
  have k17 := @kd_17 r d
  have k18 := @kd_18 r d
  have k19 := @kd_19 r d
  have k140 := @kd_140 r d
  have k143 := @kd_143 r d
  have e0 : h (r + 1) 2 = w 0 := qr.1.1.1
  have e1 : h (r + 14) 2 = w 1 := qr.1.2.1.1
  have e2 : h (r + 27) 2 = w 2 := qr.1.2.2.1
  have e3 : h r 5 = w 3 := qr.2.2.1
  have e4 : h 11 0 = w 4 := qs.2.1.1
  obtain ⟨v0, v1, v2, v3, v4⟩ := hd.1.1
  obtain ⟨hd1, hd2⟩ := hW_d hd.2.1
  refine w_iloadn f91_0 rfl ?_
  refine w_aloadn f91_1 rfl (by omega) ?_
  refine w_getR f91_2 (by assumption) rfl (by omega) ?_
  refine w_getI f91_5 (by decide) (by assumption) (by (try simp only [hput, hcopy, Nat.reduceEqDiff, Nat.add_left_cancel_iff, Nat.add_right_cancel_iff, Nat.left_eq_add, Nat.add_eq_left, Nat.right_eq_add, Nat.add_eq_right, Nat.reduceAdd, Nat.add_zero, Nat.succ_ne_self, Nat.one_ne_zero, Nat.zero_ne_one, eq_self, and_self, and_true, true_and, and_false, false_and, if_true, if_false, reduceIte, Int.reduceToNat, Int.toNat_natCast, e0, e1, e2, e3, e4]); exact rfl) ?_
  refine w_xS f91_8 (Or.inl rfl) (Nat.le_of_ble_eq_true rfl) rfl rfl ⟨Nat.le_of_ble_eq_true rfl, rfl, Nat.le_of_ble_eq_true rfl⟩ (en132 _ _) rfl rfl (s132) (pv132 _ _) (fun c1 => ?_) (fun c1 => ?_)
  · exact absurd (by assumption) hi
  · rfl
theorem s92t {i : Int} (hM : RelM r d N h w) (hi : 0 ≤ i ∧ i < w 3) : ev 92 0 [AR 1, AI i] [] (KS r d, h, R) = some (.inl (AI (tr w i 2)), (KS r d, h, R)) := by
  refine Rn.eq ?_
  have r0 := hM.rd
  obtain ⟨⟨hr, h40⟩, ⟨hd, hx, hz⟩, hn, qr, qs, qS⟩ := hM
  have hl := shRl (r := r) (d := d) r0.1
  obtain ⟨l1, n1, n2, n3, l5, l6, a0, a1, a2, a3, a4, a5, a6, a7, a8⟩ := id hl
  have n11 := n1.1
  have n21 := n2.1
  have n31 := n3.1
  obtain ⟨l51, l52⟩ := id l5
  have k1 := @kd_1 r d
  have k8 := @kd_8 r d
  have k9 := @kd_9 r d
  have k10 := @kd_10 r d
  have k11 := @kd_11 r d
  have k12 := @kd_12 r d
  have k16 := @kd_16 r d
  have k17 := @kd_17 r d
  have k18 := @kd_18 r d
  have k19 := @kd_19 r d
  have k140 := @kd_140 r d
  have k143 := @kd_143 r d
  have e0 : h (r + 1) 2 = w 0 := qr.1.1.1
  have e1 : h (r + 14) 2 = w 1 := qr.1.2.1.1
  have e2 : h (r + 27) 2 = w 2 := qr.1.2.2.1
  have e3 : h r 5 = w 3 := qr.2.2.1
  have e4 : h 11 0 = w 4 := qs.2.1.1
  obtain ⟨v0, v1, v2, v3, v4⟩ := hd.1.1
  obtain ⟨hd1, hd2⟩ := hW_d hd.2.1
  have z := (qr.2.2.v hi).1
  refine w_iloadn f92_0 rfl ?_
  refine w_aloadn f92_1 rfl (by omega) ?_
  refine w_getR f92_2 (by assumption) rfl (by omega) ?_
  refine w_getI f92_5 (by decide) (by assumption) (by (try simp only [hput, hcopy, Nat.reduceEqDiff, Nat.add_left_cancel_iff, Nat.add_right_cancel_iff, Nat.left_eq_add, Nat.add_eq_left, Nat.right_eq_add, Nat.add_eq_right, Nat.reduceAdd, Nat.add_zero, Nat.succ_ne_self, Nat.one_ne_zero, Nat.zero_ne_one, eq_self, and_self, and_true, true_and, and_false, false_and, if_true, if_false, reduceIte, Int.reduceToNat, Int.toNat_natCast, e0, e1, e2, e3, e4]); exact rfl) ?_
  refine w_xS f92_8 (Or.inl rfl) (Nat.le_of_ble_eq_true rfl) rfl rfl ⟨Nat.le_of_ble_eq_true rfl, rfl, Nat.le_of_ble_eq_true rfl⟩ (en132 _ _) rfl rfl (s132) (pv132 _ _) (fun c1 => ?_) (fun c1 => ?_)
  · refine w_aloadn f92_11 rfl (by omega) ?_
    refine w_getR f92_12 (by assumption) rfl (by omega) ?_
    refine w_getR f92_15 (by assumption) rfl (by omega) ?_
    refine w_iloadn f92_18 rfl ?_
    refine w_iald f92_19 (by assumption) (by omega) (by exact z.2.2) ?_
    refine w_iret f92_20 rfl ?_
    rfl
  · exact absurd hi (by assumption)
theorem s92f {i : Int} (hM : RelM r d N h w) (hi : ¬ (0 ≤ i ∧ i < w 3)) : ev 92 0 [AR 1, AI i] [] (KS r d, h, R) = some (.inr 0, bump (KS r d, h, R)) := by
  refine Rn.eq ?_
  have r0 := hM.rd
  obtain ⟨⟨hr, h40⟩, ⟨hd, hx, hz⟩, hn, qr, qs, qS⟩ := hM
  have hl := shRl (r := r) (d := d) r0.1
  obtain ⟨l1, n1, n2, n3, l5, l6, a0, a1, a2, a3, a4, a5, a6, a7, a8⟩ := id hl
  have n11 := n1.1
  have n21 := n2.1
  have n31 := n3.1
  obtain ⟨l51, l52⟩ := id l5
  have k1 := @kd_1 r d
  have k8 := @kd_8 r d
  have k9 := @kd_9 r d
  have k10 := @kd_10 r d
  have k11 := @kd_11 r d
  have k12 := @kd_12 r d
  have k16 := @kd_16 r d
  have k17 := @kd_17 r d
  have k18 := @kd_18 r d
  have k19 := @kd_19 r d
  have k140 := @kd_140 r d
  have k143 := @kd_143 r d
  have e0 : h (r + 1) 2 = w 0 := qr.1.1.1
  have e1 : h (r + 14) 2 = w 1 := qr.1.2.1.1
  have e2 : h (r + 27) 2 = w 2 := qr.1.2.2.1
  have e3 : h r 5 = w 3 := qr.2.2.1
  have e4 : h 11 0 = w 4 := qs.2.1.1
  obtain ⟨v0, v1, v2, v3, v4⟩ := hd.1.1
  obtain ⟨hd1, hd2⟩ := hW_d hd.2.1
  refine w_iloadn f92_0 rfl ?_
  refine w_aloadn f92_1 rfl (by omega) ?_
  refine w_getR f92_2 (by assumption) rfl (by omega) ?_
  refine w_getI f92_5 (by decide) (by assumption) (by (try simp only [hput, hcopy, Nat.reduceEqDiff, Nat.add_left_cancel_iff, Nat.add_right_cancel_iff, Nat.left_eq_add, Nat.add_eq_left, Nat.right_eq_add, Nat.add_eq_right, Nat.reduceAdd, Nat.add_zero, Nat.succ_ne_self, Nat.one_ne_zero, Nat.zero_ne_one, eq_self, and_self, and_true, true_and, and_false, false_and, if_true, if_false, reduceIte, Int.reduceToNat, Int.toNat_natCast, e0, e1, e2, e3, e4]); exact rfl) ?_
  refine w_xS f92_8 (Or.inl rfl) (Nat.le_of_ble_eq_true rfl) rfl rfl ⟨Nat.le_of_ble_eq_true rfl, rfl, Nat.le_of_ble_eq_true rfl⟩ (en132 _ _) rfl rfl (s132) (pv132 _ _) (fun c1 => ?_) (fun c1 => ?_)
  · exact absurd (by assumption) hi
  · rfl
theorem s101t {i : Int} (hM : RelM r d N h w) (hi : 0 ≤ i ∧ i < w 3) : ev 101 0 [AR 1, AI i] [] (KS r d, h, R) = some (.inl (AI (w (69 + i).toNat)), (KS r d, h, R)) := by
  refine Rn.eq ?_
  have r0 := hM.rd
  obtain ⟨⟨hr, h40⟩, ⟨hd, hx, hz⟩, hn, qr, qs, qS⟩ := hM
  have hl := shRl (r := r) (d := d) r0.1
  obtain ⟨l1, n1, n2, n3, l5, l6, a0, a1, a2, a3, a4, a5, a6, a7, a8⟩ := id hl
  have n11 := n1.1
  have n21 := n2.1
  have n31 := n3.1
  obtain ⟨l51, l52⟩ := id l5
  have k1 := @kd_1 r d
  have k8 := @kd_8 r d
  have k9 := @kd_9 r d
  have k10 := @kd_10 r d
  have k11 := @kd_11 r d
  have k12 := @kd_12 r d
  have k16 := @kd_16 r d
  have k17 := @kd_17 r d
  have k18 := @kd_18 r d
  have k19 := @kd_19 r d
  have k140 := @kd_140 r d
  have k143 := @kd_143 r d
  have e0 : h (r + 1) 2 = w 0 := qr.1.1.1
  have e1 : h (r + 14) 2 = w 1 := qr.1.2.1.1
  have e2 : h (r + 27) 2 = w 2 := qr.1.2.2.1
  have e3 : h r 5 = w 3 := qr.2.2.1
  have e4 : h 11 0 = w 4 := qs.2.1.1
  obtain ⟨v0, v1, v2, v3, v4⟩ := hd.1.1
  obtain ⟨hd1, hd2⟩ := hW_d hd.2.1
  have z : h 17 i.toNat = w (69 + i).toNat := (qs.2.2.2.1 i.toNat (by omega)).trans (congrArg w (by omega))
  refine w_iloadn f101_0 rfl ?_
  refine w_aloadn f101_1 rfl (by omega) ?_
  refine w_getR f101_2 (by assumption) rfl (by omega) ?_
  refine w_getI f101_5 (by decide) (by assumption) (by (try simp only [hput, hcopy, Nat.reduceEqDiff, Nat.add_left_cancel_iff, Nat.add_right_cancel_iff, Nat.left_eq_add, Nat.add_eq_left, Nat.right_eq_add, Nat.add_eq_right, Nat.reduceAdd, Nat.add_zero, Nat.succ_ne_self, Nat.one_ne_zero, Nat.zero_ne_one, eq_self, and_self, and_true, true_and, and_false, false_and, if_true, if_false, reduceIte, Int.reduceToNat, Int.toNat_natCast, e0, e1, e2, e3, e4]); exact rfl) ?_
  refine w_xS f101_8 (Or.inl rfl) (Nat.le_of_ble_eq_true rfl) rfl rfl ⟨Nat.le_of_ble_eq_true rfl, rfl, Nat.le_of_ble_eq_true rfl⟩ (en132 _ _) rfl rfl (s132) (pv132 _ _) (fun c1 => ?_) (fun c1 => ?_)
  · refine w_aloadn f101_11 rfl (by omega) ?_
    refine w_getR f101_12 (by assumption) rfl (by omega) ?_
    refine w_getR f101_15 (by assumption) rfl (by omega) ?_
    refine w_getR f101_18 (by assumption) rfl (by omega) ?_
    refine w_iloadn f101_21 rfl ?_
    refine w_iald f101_22 (by assumption) (by omega) (by exact z) ?_
    refine w_iret f101_23 rfl ?_
    rfl
  · exact absurd hi (by assumption)
theorem s101f {i : Int} (hM : RelM r d N h w) (hi : ¬ (0 ≤ i ∧ i < w 3)) : ev 101 0 [AR 1, AI i] [] (KS r d, h, R) = some (.inr 0, bump (KS r d, h, R)) := by
  refine Rn.eq ?_
  have r0 := hM.rd
  obtain ⟨⟨hr, h40⟩, ⟨hd, hx, hz⟩, hn, qr, qs, qS⟩ := hM
  have hl := shRl (r := r) (d := d) r0.1
  obtain ⟨l1, n1, n2, n3, l5, l6, a0, a1, a2, a3, a4, a5, a6, a7, a8⟩ := id hl
  have n11 := n1.1
  have n21 := n2.1
  have n31 := n3.1
  obtain ⟨l51, l52⟩ := id l5
  have k1 := @kd_1 r d
  have k8 := @kd_8 r d
  have k9 := @kd_9 r d
  have k10 := @kd_10 r d
  have k11 := @kd_11 r d
  have k12 := @kd_12 r d
  have k16 := @kd_16 r d
  have k17 := @kd_17 r d
  have k18 := @kd_18 r d
  have k19 := @kd_19 r d
  have k140 := @kd_140 r d
  have k143 := @kd_143 r d
  have e0 : h (r + 1) 2 = w 0 := qr.1.1.1
  have e1 : h (r + 14) 2 = w 1 := qr.1.2.1.1
  have e2 : h (r + 27) 2 = w 2 := qr.1.2.2.1
  have e3 : h r 5 = w 3 := qr.2.2.1
  have e4 : h 11 0 = w 4 := qs.2.1.1
  obtain ⟨v0, v1, v2, v3, v4⟩ := hd.1.1
  obtain ⟨hd1, hd2⟩ := hW_d hd.2.1
  refine w_iloadn f101_0 rfl ?_
  refine w_aloadn f101_1 rfl (by omega) ?_
  refine w_getR f101_2 (by assumption) rfl (by omega) ?_
  refine w_getI f101_5 (by decide) (by assumption) (by (try simp only [hput, hcopy, Nat.reduceEqDiff, Nat.add_left_cancel_iff, Nat.add_right_cancel_iff, Nat.left_eq_add, Nat.add_eq_left, Nat.right_eq_add, Nat.add_eq_right, Nat.reduceAdd, Nat.add_zero, Nat.succ_ne_self, Nat.one_ne_zero, Nat.zero_ne_one, eq_self, and_self, and_true, true_and, and_false, false_and, if_true, if_false, reduceIte, Int.reduceToNat, Int.toNat_natCast, e0, e1, e2, e3, e4]); exact rfl) ?_
  refine w_xS f101_8 (Or.inl rfl) (Nat.le_of_ble_eq_true rfl) rfl rfl ⟨Nat.le_of_ble_eq_true rfl, rfl, Nat.le_of_ble_eq_true rfl⟩ (en132 _ _) rfl rfl (s132) (pv132 _ _) (fun c1 => ?_) (fun c1 => ?_)
  · exact absurd (by assumption) hi
  · rfl
theorem s102t {i : Int} (hM : RelM r d N h w) (hi : 0 ≤ i ∧ i < w 0) : ev 102 0 [AR 1, AI i] [] (KS r d, h, R) = some (.inl (AI (w (59 + i).toNat)), (KS r d, h, R)) := by
  refine Rn.eq ?_
  have r0 := hM.rd
  obtain ⟨⟨hr, h40⟩, ⟨hd, hx, hz⟩, hn, qr, qs, qS⟩ := hM
  have hl := shRl (r := r) (d := d) r0.1
  obtain ⟨l1, n1, n2, n3, l5, l6, a0, a1, a2, a3, a4, a5, a6, a7, a8⟩ := id hl
  have n11 := n1.1
  have n21 := n2.1
  have n31 := n3.1
  obtain ⟨l51, l52⟩ := id l5
  have k1 := @kd_1 r d
  have k8 := @kd_8 r d
  have k9 := @kd_9 r d
  have k10 := @kd_10 r d
  have k11 := @kd_11 r d
  have k12 := @kd_12 r d
  have k16 := @kd_16 r d
  have k17 := @kd_17 r d
  have k18 := @kd_18 r d
  have k19 := @kd_19 r d
  have k140 := @kd_140 r d
  have k143 := @kd_143 r d
  have e0 : h (r + 1) 2 = w 0 := qr.1.1.1
  have e1 : h (r + 14) 2 = w 1 := qr.1.2.1.1
  have e2 : h (r + 27) 2 = w 2 := qr.1.2.2.1
  have e3 : h r 5 = w 3 := qr.2.2.1
  have e4 : h 11 0 = w 4 := qs.2.1.1
  obtain ⟨v0, v1, v2, v3, v4⟩ := hd.1.1
  obtain ⟨hd1, hd2⟩ := hW_d hd.2.1
  have z : h 18 i.toNat = w (59 + i).toNat := (qs.2.2.2.2.1 i.toNat (by omega)).trans (congrArg w (by omega))
  refine w_iloadn f102_0 rfl ?_
  refine w_aloadn f102_1 rfl (by omega) ?_
  refine w_getR f102_2 (by assumption) rfl (by omega) ?_
  refine w_getR f102_5 (by assumption) rfl (by omega) ?_
  refine w_getI f102_8 (by decide) (by assumption) (by (try simp only [hput, hcopy, Nat.reduceEqDiff, Nat.add_left_cancel_iff, Nat.add_right_cancel_iff, Nat.left_eq_add, Nat.add_eq_left, Nat.right_eq_add, Nat.add_eq_right, Nat.reduceAdd, Nat.add_zero, Nat.succ_ne_self, Nat.one_ne_zero, Nat.zero_ne_one, eq_self, and_self, and_true, true_and, and_false, false_and, if_true, if_false, reduceIte, Int.reduceToNat, Int.toNat_natCast, e0, e1, e2, e3, e4]); exact rfl) ?_
  refine w_xS f102_11 (Or.inl rfl) (Nat.le_of_ble_eq_true rfl) rfl rfl ⟨Nat.le_of_ble_eq_true rfl, rfl, Nat.le_of_ble_eq_true rfl⟩ (en132 _ _) rfl rfl (s132) (pv132 _ _) (fun c1 => ?_) (fun c1 => ?_)
  · refine w_aloadn f102_14 rfl (by omega) ?_
    refine w_getR f102_15 (by assumption) rfl (by omega) ?_
    refine w_getR f102_18 (by assumption) rfl (by omega) ?_
    refine w_getR f102_21 (by assumption) rfl (by omega) ?_
    refine w_iloadn f102_24 rfl ?_
    refine w_iald f102_25 (by assumption) (by omega) (by exact z) ?_
    refine w_iret f102_26 rfl ?_
    rfl
  · exact absurd hi (by assumption)
theorem s102f {i : Int} (hM : RelM r d N h w) (hi : ¬ (0 ≤ i ∧ i < w 0)) : ev 102 0 [AR 1, AI i] [] (KS r d, h, R) = some (.inr 0, bump (KS r d, h, R)) := by
  refine Rn.eq ?_
  have r0 := hM.rd
  obtain ⟨⟨hr, h40⟩, ⟨hd, hx, hz⟩, hn, qr, qs, qS⟩ := hM
  have hl := shRl (r := r) (d := d) r0.1
  obtain ⟨l1, n1, n2, n3, l5, l6, a0, a1, a2, a3, a4, a5, a6, a7, a8⟩ := id hl
  have n11 := n1.1
  have n21 := n2.1
  have n31 := n3.1
  obtain ⟨l51, l52⟩ := id l5
  have k1 := @kd_1 r d
  have k8 := @kd_8 r d
  have k9 := @kd_9 r d
  have k10 := @kd_10 r d
  have k11 := @kd_11 r d
  have k12 := @kd_12 r d
  have k16 := @kd_16 r d
  have k17 := @kd_17 r d
  have k18 := @kd_18 r d
  have k19 := @kd_19 r d
  have k140 := @kd_140 r d
  have k143 := @kd_143 r d
  have e0 : h (r + 1) 2 = w 0 := qr.1.1.1
  have e1 : h (r + 14) 2 = w 1 := qr.1.2.1.1
  have e2 : h (r + 27) 2 = w 2 := qr.1.2.2.1
  have e3 : h r 5 = w 3 := qr.2.2.1
  have e4 : h 11 0 = w 4 := qs.2.1.1
  obtain ⟨v0, v1, v2, v3, v4⟩ := hd.1.1
  obtain ⟨hd1, hd2⟩ := hW_d hd.2.1
  refine w_iloadn f102_0 rfl ?_
  refine w_aloadn f102_1 rfl (by omega) ?_
  refine w_getR f102_2 (by assumption) rfl (by omega) ?_
  refine w_getR f102_5 (by assumption) rfl (by omega) ?_
  refine w_getI f102_8 (by decide) (by assumption) (by (try simp only [hput, hcopy, Nat.reduceEqDiff, Nat.add_left_cancel_iff, Nat.add_right_cancel_iff, Nat.left_eq_add, Nat.add_eq_left, Nat.right_eq_add, Nat.add_eq_right, Nat.reduceAdd, Nat.add_zero, Nat.succ_ne_self, Nat.one_ne_zero, Nat.zero_ne_one, eq_self, and_self, and_true, true_and, and_false, false_and, if_true, if_false, reduceIte, Int.reduceToNat, Int.toNat_natCast, e0, e1, e2, e3, e4]); exact rfl) ?_
  refine w_xS f102_11 (Or.inl rfl) (Nat.le_of_ble_eq_true rfl) rfl rfl ⟨Nat.le_of_ble_eq_true rfl, rfl, Nat.le_of_ble_eq_true rfl⟩ (en132 _ _) rfl rfl (s132) (pv132 _ _) (fun c1 => ?_) (fun c1 => ?_)
  · exact absurd (by assumption) hi
  · rfl
theorem s95t {i : Int} (hM : RelM r d N h w) (hi : 0 ≤ i ∧ i < w 4) : ev 95 0 [AR 1, AI i] [] (KS r d, h, R) = some (.inl (AI (iv w i 0)), (KS r d, h, R)) := by
  refine Rn.eq ?_
  have r0 := hM.rd
  obtain ⟨⟨hr, h40⟩, ⟨hd, hx, hz⟩, hn, qr, qs, qS⟩ := hM
  have hl := shRl (r := r) (d := d) r0.1
  obtain ⟨l1, n1, n2, n3, l5, l6, a0, a1, a2, a3, a4, a5, a6, a7, a8⟩ := id hl
  have n11 := n1.1
  have n21 := n2.1
  have n31 := n3.1
  obtain ⟨l51, l52⟩ := id l5
  have k1 := @kd_1 r d
  have k8 := @kd_8 r d
  have k9 := @kd_9 r d
  have k10 := @kd_10 r d
  have k11 := @kd_11 r d
  have k12 := @kd_12 r d
  have k16 := @kd_16 r d
  have k17 := @kd_17 r d
  have k18 := @kd_18 r d
  have k19 := @kd_19 r d
  have k140 := @kd_140 r d
  have k143 := @kd_143 r d
  have e0 : h (r + 1) 2 = w 0 := qr.1.1.1
  have e1 : h (r + 14) 2 = w 1 := qr.1.2.1.1
  have e2 : h (r + 27) 2 = w 2 := qr.1.2.2.1
  have e3 : h r 5 = w 3 := qr.2.2.1
  have e4 : h 11 0 = w 4 := qs.2.1.1
  obtain ⟨v0, v1, v2, v3, v4⟩ := hd.1.1
  obtain ⟨hd1, hd2⟩ := hW_d hd.2.1
  have z := (qs.2.1.v hi).1
  refine w_iloadn f95_0 rfl ?_
  refine w_aloadn f95_1 rfl (by omega) ?_
  refine w_getR f95_2 (by assumption) rfl (by omega) ?_
  refine w_getR f95_5 (by assumption) rfl (by omega) ?_
  refine w_getI f95_8 (by decide) (by assumption) (by (try simp only [hput, hcopy, Nat.reduceEqDiff, Nat.add_left_cancel_iff, Nat.add_right_cancel_iff, Nat.left_eq_add, Nat.add_eq_left, Nat.right_eq_add, Nat.add_eq_right, Nat.reduceAdd, Nat.add_zero, Nat.succ_ne_self, Nat.one_ne_zero, Nat.zero_ne_one, eq_self, and_self, and_true, true_and, and_false, false_and, if_true, if_false, reduceIte, Int.reduceToNat, Int.toNat_natCast, e0, e1, e2, e3, e4]); exact rfl) ?_
  refine w_xS f95_11 (Or.inl rfl) (Nat.le_of_ble_eq_true rfl) rfl rfl ⟨Nat.le_of_ble_eq_true rfl, rfl, Nat.le_of_ble_eq_true rfl⟩ (en132 _ _) rfl rfl (s132) (pv132 _ _) (fun c1 => ?_) (fun c1 => ?_)
  · refine w_aloadn f95_14 rfl (by omega) ?_
    refine w_getR f95_15 (by assumption) rfl (by omega) ?_
    refine w_getR f95_18 (by assumption) rfl (by omega) ?_
    refine w_getR f95_21 (by assumption) rfl (by omega) ?_
    refine w_iloadn f95_24 rfl ?_
    refine w_iald f95_25 (by assumption) (by omega) (by exact z) ?_
    refine w_iret f95_26 rfl ?_
    rfl
  · exact absurd hi (by assumption)
theorem s95f {i : Int} (hM : RelM r d N h w) (hi : ¬ (0 ≤ i ∧ i < w 4)) : ev 95 0 [AR 1, AI i] [] (KS r d, h, R) = some (.inr 0, bump (KS r d, h, R)) := by
  refine Rn.eq ?_
  have r0 := hM.rd
  obtain ⟨⟨hr, h40⟩, ⟨hd, hx, hz⟩, hn, qr, qs, qS⟩ := hM
  have hl := shRl (r := r) (d := d) r0.1
  obtain ⟨l1, n1, n2, n3, l5, l6, a0, a1, a2, a3, a4, a5, a6, a7, a8⟩ := id hl
  have n11 := n1.1
  have n21 := n2.1
  have n31 := n3.1
  obtain ⟨l51, l52⟩ := id l5
  have k1 := @kd_1 r d
  have k8 := @kd_8 r d
  have k9 := @kd_9 r d
  have k10 := @kd_10 r d
  have k11 := @kd_11 r d
  have k12 := @kd_12 r d
  have k16 := @kd_16 r d
  have k17 := @kd_17 r d
  have k18 := @kd_18 r d
  have k19 := @kd_19 r d
  have k140 := @kd_140 r d
  have k143 := @kd_143 r d
  have e0 : h (r + 1) 2 = w 0 := qr.1.1.1
  have e1 : h (r + 14) 2 = w 1 := qr.1.2.1.1
  have e2 : h (r + 27) 2 = w 2 := qr.1.2.2.1
  have e3 : h r 5 = w 3 := qr.2.2.1
  have e4 : h 11 0 = w 4 := qs.2.1.1
  obtain ⟨v0, v1, v2, v3, v4⟩ := hd.1.1
  obtain ⟨hd1, hd2⟩ := hW_d hd.2.1
  refine w_iloadn f95_0 rfl ?_
  refine w_aloadn f95_1 rfl (by omega) ?_
  refine w_getR f95_2 (by assumption) rfl (by omega) ?_
  refine w_getR f95_5 (by assumption) rfl (by omega) ?_
  refine w_getI f95_8 (by decide) (by assumption) (by (try simp only [hput, hcopy, Nat.reduceEqDiff, Nat.add_left_cancel_iff, Nat.add_right_cancel_iff, Nat.left_eq_add, Nat.add_eq_left, Nat.right_eq_add, Nat.add_eq_right, Nat.reduceAdd, Nat.add_zero, Nat.succ_ne_self, Nat.one_ne_zero, Nat.zero_ne_one, eq_self, and_self, and_true, true_and, and_false, false_and, if_true, if_false, reduceIte, Int.reduceToNat, Int.toNat_natCast, e0, e1, e2, e3, e4]); exact rfl) ?_
  refine w_xS f95_11 (Or.inl rfl) (Nat.le_of_ble_eq_true rfl) rfl rfl ⟨Nat.le_of_ble_eq_true rfl, rfl, Nat.le_of_ble_eq_true rfl⟩ (en132 _ _) rfl rfl (s132) (pv132 _ _) (fun c1 => ?_) (fun c1 => ?_)
  · exact absurd (by assumption) hi
  · rfl
theorem s93t {i : Int} (hM : RelM r d N h w) (hi : 0 ≤ i ∧ i < w 3) : ev 93 0 [AR 1, AI i] [] (KS r d, h, R) = some (.inl (AI (b2i (tr w i 3 ≠ -1))), (KS r d, h, R)) := by
  refine Rn.eq ?_
  have r0 := hM.rd
  obtain ⟨⟨hr, h40⟩, ⟨hd, hx, hz⟩, hn, qr, qs, qS⟩ := hM
  have hl := shRl (r := r) (d := d) r0.1
  obtain ⟨l1, n1, n2, n3, l5, l6, a0, a1, a2, a3, a4, a5, a6, a7, a8⟩ := id hl
  have n11 := n1.1
  have n21 := n2.1
  have n31 := n3.1
  obtain ⟨l51, l52⟩ := id l5
  have k1 := @kd_1 r d
  have k8 := @kd_8 r d
  have k9 := @kd_9 r d
  have k10 := @kd_10 r d
  have k11 := @kd_11 r d
  have k12 := @kd_12 r d
  have k16 := @kd_16 r d
  have k17 := @kd_17 r d
  have k18 := @kd_18 r d
  have k19 := @kd_19 r d
  have k140 := @kd_140 r d
  have k143 := @kd_143 r d
  have e0 : h (r + 1) 2 = w 0 := qr.1.1.1
  have e1 : h (r + 14) 2 = w 1 := qr.1.2.1.1
  have e2 : h (r + 27) 2 = w 2 := qr.1.2.2.1
  have e3 : h r 5 = w 3 := qr.2.2.1
  have e4 : h 11 0 = w 4 := qs.2.1.1
  obtain ⟨v0, v1, v2, v3, v4⟩ := hd.1.1
  obtain ⟨hd1, hd2⟩ := hW_d hd.2.1
  have z := (qr.2.2.v hi).2.1.1
  have g := (hd.1.2.2.2.1 i hi.1 hi.2).2.2.2.1
  by_cases y : tr w i 3 = -1
  · rw [if_pos y] at z
    refine w_iloadn f93_0 rfl ?_
    refine w_aloadn f93_1 rfl (by omega) ?_
    refine w_getR f93_2 (by assumption) rfl (by omega) ?_
    refine w_getI f93_5 (by decide) (by assumption) (by (try simp only [hput, hcopy, Nat.reduceEqDiff, Nat.add_left_cancel_iff, Nat.add_right_cancel_iff, Nat.left_eq_add, Nat.add_eq_left, Nat.right_eq_add, Nat.add_eq_right, Nat.reduceAdd, Nat.add_zero, Nat.succ_ne_self, Nat.one_ne_zero, Nat.zero_ne_one, eq_self, and_self, and_true, true_and, and_false, false_and, if_true, if_false, reduceIte, Int.reduceToNat, Int.toNat_natCast, e0, e1, e2, e3, e4]); exact rfl) ?_
    refine w_xS f93_8 (Or.inl rfl) (Nat.le_of_ble_eq_true rfl) rfl rfl ⟨Nat.le_of_ble_eq_true rfl, rfl, Nat.le_of_ble_eq_true rfl⟩ (en132 _ _) rfl rfl (s132) (pv132 _ _) (fun c1 => ?_) (fun c1 => ?_)
    · refine w_aloadn f93_11 rfl (by omega) ?_
      refine w_getR f93_12 (by assumption) rfl (by omega) ?_
      refine w_getR f93_15 (by assumption) rfl (by omega) ?_
      refine w_iloadn f93_18 rfl ?_
      refine w_iald f93_19 (by assumption) (by omega) (by exact z) ?_
      refine w_iconst (v := -1) f93_20 (by decide) ?_
      refine w_ic_eq (t := 28) f93_21 (by decide) (fun c2 => ?_) (fun c2 => by omega)
      refine w_iconst (v := 0) f93_28 (by decide) ?_
      refine w_zret f93_29 rfl (by decide) ?_
      exact ob_f (fun q => q y)
    · exact absurd hi (by assumption)
  rw [if_neg y] at z
  refine w_iloadn f93_0 rfl ?_
  refine w_aloadn f93_1 rfl (by omega) ?_
  refine w_getR f93_2 (by assumption) rfl (by omega) ?_
  refine w_getI f93_5 (by decide) (by assumption) (by (try simp only [hput, hcopy, Nat.reduceEqDiff, Nat.add_left_cancel_iff, Nat.add_right_cancel_iff, Nat.left_eq_add, Nat.add_eq_left, Nat.right_eq_add, Nat.add_eq_right, Nat.reduceAdd, Nat.add_zero, Nat.succ_ne_self, Nat.one_ne_zero, Nat.zero_ne_one, eq_self, and_self, and_true, true_and, and_false, false_and, if_true, if_false, reduceIte, Int.reduceToNat, Int.toNat_natCast, e0, e1, e2, e3, e4]); exact rfl) ?_
  refine w_xS f93_8 (Or.inl rfl) (Nat.le_of_ble_eq_true rfl) rfl rfl ⟨Nat.le_of_ble_eq_true rfl, rfl, Nat.le_of_ble_eq_true rfl⟩ (en132 _ _) rfl rfl (s132) (pv132 _ _) (fun c1 => ?_) (fun c1 => ?_)
  · refine w_aloadn f93_11 rfl (by omega) ?_
    refine w_getR f93_12 (by assumption) rfl (by omega) ?_
    refine w_getR f93_15 (by assumption) rfl (by omega) ?_
    refine w_iloadn f93_18 rfl ?_
    refine w_iald f93_19 (by assumption) (by omega) (by exact z) ?_
    refine w_iconst (v := -1) f93_20 (by decide) ?_
    refine w_ic_eq (t := 28) f93_21 (by decide) (fun c2 => by omega) (fun c2 => ?_)
    refine w_iconst (v := 1) f93_24 (by decide) ?_
    refine w_goto (t := 29) f93_25 (by decide) ?_
    refine w_zret f93_29 rfl (by decide) ?_
    exact ob_t y
  · exact absurd hi (by assumption)
theorem s93f {i : Int} (hM : RelM r d N h w) (hi : ¬ (0 ≤ i ∧ i < w 3)) : ev 93 0 [AR 1, AI i] [] (KS r d, h, R) = some (.inr 0, bump (KS r d, h, R)) := by
  refine Rn.eq ?_
  have r0 := hM.rd
  obtain ⟨⟨hr, h40⟩, ⟨hd, hx, hz⟩, hn, qr, qs, qS⟩ := hM
  have hl := shRl (r := r) (d := d) r0.1
  obtain ⟨l1, n1, n2, n3, l5, l6, a0, a1, a2, a3, a4, a5, a6, a7, a8⟩ := id hl
  have n11 := n1.1
  have n21 := n2.1
  have n31 := n3.1
  obtain ⟨l51, l52⟩ := id l5
  have k1 := @kd_1 r d
  have k8 := @kd_8 r d
  have k9 := @kd_9 r d
  have k10 := @kd_10 r d
  have k11 := @kd_11 r d
  have k12 := @kd_12 r d
  have k16 := @kd_16 r d
  have k17 := @kd_17 r d
  have k18 := @kd_18 r d
  have k19 := @kd_19 r d
  have k140 := @kd_140 r d
  have k143 := @kd_143 r d
  have e0 : h (r + 1) 2 = w 0 := qr.1.1.1
  have e1 : h (r + 14) 2 = w 1 := qr.1.2.1.1
  have e2 : h (r + 27) 2 = w 2 := qr.1.2.2.1
  have e3 : h r 5 = w 3 := qr.2.2.1
  have e4 : h 11 0 = w 4 := qs.2.1.1
  obtain ⟨v0, v1, v2, v3, v4⟩ := hd.1.1
  obtain ⟨hd1, hd2⟩ := hW_d hd.2.1
  refine w_iloadn f93_0 rfl ?_
  refine w_aloadn f93_1 rfl (by omega) ?_
  refine w_getR f93_2 (by assumption) rfl (by omega) ?_
  refine w_getI f93_5 (by decide) (by assumption) (by (try simp only [hput, hcopy, Nat.reduceEqDiff, Nat.add_left_cancel_iff, Nat.add_right_cancel_iff, Nat.left_eq_add, Nat.add_eq_left, Nat.right_eq_add, Nat.add_eq_right, Nat.reduceAdd, Nat.add_zero, Nat.succ_ne_self, Nat.one_ne_zero, Nat.zero_ne_one, eq_self, and_self, and_true, true_and, and_false, false_and, if_true, if_false, reduceIte, Int.reduceToNat, Int.toNat_natCast, e0, e1, e2, e3, e4]); exact rfl) ?_
  refine w_xS f93_8 (Or.inl rfl) (Nat.le_of_ble_eq_true rfl) rfl rfl ⟨Nat.le_of_ble_eq_true rfl, rfl, Nat.le_of_ble_eq_true rfl⟩ (en132 _ _) rfl rfl (s132) (pv132 _ _) (fun c1 => ?_) (fun c1 => ?_)
  · exact absurd (by assumption) hi
  · rfl
theorem s94t {i : Int} (hM : RelM r d N h w) (hi : 0 ≤ i ∧ i < w 3) : ev 94 0 [AR 1, AI i] [] (KS r d, h, R) = some (.inl (AI (b2i (gdB w i (hereW w) = true))), (KS r d, h, R)) := by
  refine Rn.eq ?_
  have r0 := hM.rd
  obtain ⟨⟨hr, h40⟩, ⟨hd, hx, hz⟩, hn, qr, qs, qS⟩ := hM
  have hl := shRl (r := r) (d := d) r0.1
  obtain ⟨l1, n1, n2, n3, l5, l6, a0, a1, a2, a3, a4, a5, a6, a7, a8⟩ := id hl
  have n11 := n1.1
  have n21 := n2.1
  have n31 := n3.1
  obtain ⟨l51, l52⟩ := id l5
  have k1 := @kd_1 r d
  have k8 := @kd_8 r d
  have k9 := @kd_9 r d
  have k10 := @kd_10 r d
  have k11 := @kd_11 r d
  have k12 := @kd_12 r d
  have k16 := @kd_16 r d
  have k17 := @kd_17 r d
  have k18 := @kd_18 r d
  have k19 := @kd_19 r d
  have k140 := @kd_140 r d
  have k143 := @kd_143 r d
  have e0 : h (r + 1) 2 = w 0 := qr.1.1.1
  have e1 : h (r + 14) 2 = w 1 := qr.1.2.1.1
  have e2 : h (r + 27) 2 = w 2 := qr.1.2.2.1
  have e3 : h r 5 = w 3 := qr.2.2.1
  have e4 : h 11 0 = w 4 := qs.2.1.1
  obtain ⟨v0, v1, v2, v3, v4⟩ := hd.1.1
  obtain ⟨hd1, hd2⟩ := hW_d hd.2.1
  refine w_iloadn f94_0 rfl ?_
  refine w_aloadn f94_1 rfl (by omega) ?_
  refine w_getR f94_2 (by assumption) rfl (by omega) ?_
  refine w_getI f94_5 (by decide) (by assumption) (by (try simp only [hput, hcopy, Nat.reduceEqDiff, Nat.add_left_cancel_iff, Nat.add_right_cancel_iff, Nat.left_eq_add, Nat.add_eq_left, Nat.right_eq_add, Nat.add_eq_right, Nat.reduceAdd, Nat.add_zero, Nat.succ_ne_self, Nat.one_ne_zero, Nat.zero_ne_one, eq_self, and_self, and_true, true_and, and_false, false_and, if_true, if_false, reduceIte, Int.reduceToNat, Int.toNat_natCast, e0, e1, e2, e3, e4]); exact rfl) ?_
  refine w_xS f94_8 (Or.inl rfl) (Nat.le_of_ble_eq_true rfl) rfl rfl ⟨Nat.le_of_ble_eq_true rfl, rfl, Nat.le_of_ble_eq_true rfl⟩ (en132 _ _) rfl rfl (s132) (pv132 _ _) (fun c1 => ?_) (fun c1 => ?_)
  · refine w_aloadn f94_11 rfl (by omega) ?_
    refine w_getR f94_12 (by assumption) rfl (by omega) ?_
    refine w_iloadn f94_15 rfl ?_
    refine w_aloadn f94_16 rfl (by omega) ?_
    refine w_getR f94_17 (by assumption) rfl (by omega) ?_
    refine w_getR f94_20 (by assumption) rfl (by omega) ?_
    refine w_cV f94_23 (Or.inl rfl) rfl (by omega) (okd_of (by assumption)) rfl ⟨Nat.le_of_ble_eq_true rfl, rfl, Nat.le_of_ble_eq_true rfl⟩ (en48 _ _ _) (s48 hl sh8.2.1 (by omega) (by decide) hd.1 qr.2.2 qs.1 hi) (pv48 _ _) ?_
    refine w_zret f94_26 rfl (b2i_01 _) ?_
    rfl
  · exact absurd hi (by assumption)
theorem s94f {i : Int} (hM : RelM r d N h w) (hi : ¬ (0 ≤ i ∧ i < w 3)) : ev 94 0 [AR 1, AI i] [] (KS r d, h, R) = some (.inr 0, bump (KS r d, h, R)) := by
  refine Rn.eq ?_
  have r0 := hM.rd
  obtain ⟨⟨hr, h40⟩, ⟨hd, hx, hz⟩, hn, qr, qs, qS⟩ := hM
  have hl := shRl (r := r) (d := d) r0.1
  obtain ⟨l1, n1, n2, n3, l5, l6, a0, a1, a2, a3, a4, a5, a6, a7, a8⟩ := id hl
  have n11 := n1.1
  have n21 := n2.1
  have n31 := n3.1
  obtain ⟨l51, l52⟩ := id l5
  have k1 := @kd_1 r d
  have k8 := @kd_8 r d
  have k9 := @kd_9 r d
  have k10 := @kd_10 r d
  have k11 := @kd_11 r d
  have k12 := @kd_12 r d
  have k16 := @kd_16 r d
  have k17 := @kd_17 r d
  have k18 := @kd_18 r d
  have k19 := @kd_19 r d
  have k140 := @kd_140 r d
  have k143 := @kd_143 r d
  have e0 : h (r + 1) 2 = w 0 := qr.1.1.1
  have e1 : h (r + 14) 2 = w 1 := qr.1.2.1.1
  have e2 : h (r + 27) 2 = w 2 := qr.1.2.2.1
  have e3 : h r 5 = w 3 := qr.2.2.1
  have e4 : h 11 0 = w 4 := qs.2.1.1
  obtain ⟨v0, v1, v2, v3, v4⟩ := hd.1.1
  obtain ⟨hd1, hd2⟩ := hW_d hd.2.1
  refine w_iloadn f94_0 rfl ?_
  refine w_aloadn f94_1 rfl (by omega) ?_
  refine w_getR f94_2 (by assumption) rfl (by omega) ?_
  refine w_getI f94_5 (by decide) (by assumption) (by (try simp only [hput, hcopy, Nat.reduceEqDiff, Nat.add_left_cancel_iff, Nat.add_right_cancel_iff, Nat.left_eq_add, Nat.add_eq_left, Nat.right_eq_add, Nat.add_eq_right, Nat.reduceAdd, Nat.add_zero, Nat.succ_ne_self, Nat.one_ne_zero, Nat.zero_ne_one, eq_self, and_self, and_true, true_and, and_false, false_and, if_true, if_false, reduceIte, Int.reduceToNat, Int.toNat_natCast, e0, e1, e2, e3, e4]); exact rfl) ?_
  refine w_xS f94_8 (Or.inl rfl) (Nat.le_of_ble_eq_true rfl) rfl rfl ⟨Nat.le_of_ble_eq_true rfl, rfl, Nat.le_of_ble_eq_true rfl⟩ (en132 _ _) rfl rfl (s132) (pv132 _ _) (fun c1 => ?_) (fun c1 => ?_)
  · exact absurd (by assumption) hi
  · rfl
theorem s96t {i : Int} (hM : RelM r d N h w) (hi : 0 ≤ i ∧ i < w 4) : ev 96 0 [AR 1, AI i] [] (KS r d, h, R) = some (.inl (AI (b2i (cmpB (vIn (hereW w) (iv w i 1)) (iv w i 2) (iv w i 3) = true))), (KS r d, h, R)) := by
  refine Rn.eq ?_
  have r0 := hM.rd
  obtain ⟨⟨hr, h40⟩, ⟨hd, hx, hz⟩, hn, qr, qs, qS⟩ := hM
  have hl := shRl (r := r) (d := d) r0.1
  obtain ⟨l1, n1, n2, n3, l5, l6, a0, a1, a2, a3, a4, a5, a6, a7, a8⟩ := id hl
  have n11 := n1.1
  have n21 := n2.1
  have n31 := n3.1
  obtain ⟨l51, l52⟩ := id l5
  have k1 := @kd_1 r d
  have k8 := @kd_8 r d
  have k9 := @kd_9 r d
  have k10 := @kd_10 r d
  have k11 := @kd_11 r d
  have k12 := @kd_12 r d
  have k16 := @kd_16 r d
  have k17 := @kd_17 r d
  have k18 := @kd_18 r d
  have k19 := @kd_19 r d
  have k140 := @kd_140 r d
  have k143 := @kd_143 r d
  have e0 : h (r + 1) 2 = w 0 := qr.1.1.1
  have e1 : h (r + 14) 2 = w 1 := qr.1.2.1.1
  have e2 : h (r + 27) 2 = w 2 := qr.1.2.2.1
  have e3 : h r 5 = w 3 := qr.2.2.1
  have e4 : h 11 0 = w 4 := qs.2.1.1
  obtain ⟨v0, v1, v2, v3, v4⟩ := hd.1.1
  obtain ⟨hd1, hd2⟩ := hW_d hd.2.1
  have g := (hd.1.2.2.2.2 i hi.1 hi.2).2.1
  refine w_iloadn f96_0 rfl ?_
  refine w_aloadn f96_1 rfl (by omega) ?_
  refine w_getR f96_2 (by assumption) rfl (by omega) ?_
  refine w_getR f96_5 (by assumption) rfl (by omega) ?_
  refine w_getI f96_8 (by decide) (by assumption) (by (try simp only [hput, hcopy, Nat.reduceEqDiff, Nat.add_left_cancel_iff, Nat.add_right_cancel_iff, Nat.left_eq_add, Nat.add_eq_left, Nat.right_eq_add, Nat.add_eq_right, Nat.reduceAdd, Nat.add_zero, Nat.succ_ne_self, Nat.one_ne_zero, Nat.zero_ne_one, eq_self, and_self, and_true, true_and, and_false, false_and, if_true, if_false, reduceIte, Int.reduceToNat, Int.toNat_natCast, e0, e1, e2, e3, e4]); exact rfl) ?_
  refine w_xS f96_11 (Or.inl rfl) (Nat.le_of_ble_eq_true rfl) rfl rfl ⟨Nat.le_of_ble_eq_true rfl, rfl, Nat.le_of_ble_eq_true rfl⟩ (en132 _ _) rfl rfl (s132) (pv132 _ _) (fun c1 => ?_) (fun c1 => ?_)
  · refine w_aloadn f96_14 rfl (by omega) ?_
    refine w_getR f96_15 (by assumption) rfl (by omega) ?_
    refine w_getR f96_18 (by assumption) rfl (by omega) ?_
    refine w_iloadn f96_21 rfl ?_
    refine w_aloadn f96_22 rfl (by omega) ?_
    refine w_getR f96_23 (by assumption) rfl (by omega) ?_
    refine w_getR f96_26 (by assumption) rfl (by omega) ?_
    refine w_cV f96_29 (Or.inl rfl) rfl (by omega) (okd_of (by assumption)) rfl ⟨Nat.le_of_ble_eq_true rfl, rfl, Nat.le_of_ble_eq_true rfl⟩ (en39 _ _ _) (s39 sh8.2.2.1 sh8.2.1 (by decide) (by decide) qs.2.1 qs.1 v4.2 hi ⟨g.1, by omega⟩) (pv39 _ _) ?_
    refine w_zret f96_32 rfl (b2i_01 _) ?_
    rfl
  · exact absurd hi (by assumption)
theorem s96f {i : Int} (hM : RelM r d N h w) (hi : ¬ (0 ≤ i ∧ i < w 4)) : ev 96 0 [AR 1, AI i] [] (KS r d, h, R) = some (.inr 0, bump (KS r d, h, R)) := by
  refine Rn.eq ?_
  have r0 := hM.rd
  obtain ⟨⟨hr, h40⟩, ⟨hd, hx, hz⟩, hn, qr, qs, qS⟩ := hM
  have hl := shRl (r := r) (d := d) r0.1
  obtain ⟨l1, n1, n2, n3, l5, l6, a0, a1, a2, a3, a4, a5, a6, a7, a8⟩ := id hl
  have n11 := n1.1
  have n21 := n2.1
  have n31 := n3.1
  obtain ⟨l51, l52⟩ := id l5
  have k1 := @kd_1 r d
  have k8 := @kd_8 r d
  have k9 := @kd_9 r d
  have k10 := @kd_10 r d
  have k11 := @kd_11 r d
  have k12 := @kd_12 r d
  have k16 := @kd_16 r d
  have k17 := @kd_17 r d
  have k18 := @kd_18 r d
  have k19 := @kd_19 r d
  have k140 := @kd_140 r d
  have k143 := @kd_143 r d
  have e0 : h (r + 1) 2 = w 0 := qr.1.1.1
  have e1 : h (r + 14) 2 = w 1 := qr.1.2.1.1
  have e2 : h (r + 27) 2 = w 2 := qr.1.2.2.1
  have e3 : h r 5 = w 3 := qr.2.2.1
  have e4 : h 11 0 = w 4 := qs.2.1.1
  obtain ⟨v0, v1, v2, v3, v4⟩ := hd.1.1
  obtain ⟨hd1, hd2⟩ := hW_d hd.2.1
  refine w_iloadn f96_0 rfl ?_
  refine w_aloadn f96_1 rfl (by omega) ?_
  refine w_getR f96_2 (by assumption) rfl (by omega) ?_
  refine w_getR f96_5 (by assumption) rfl (by omega) ?_
  refine w_getI f96_8 (by decide) (by assumption) (by (try simp only [hput, hcopy, Nat.reduceEqDiff, Nat.add_left_cancel_iff, Nat.add_right_cancel_iff, Nat.left_eq_add, Nat.add_eq_left, Nat.right_eq_add, Nat.add_eq_right, Nat.reduceAdd, Nat.add_zero, Nat.succ_ne_self, Nat.one_ne_zero, Nat.zero_ne_one, eq_self, and_self, and_true, true_and, and_false, false_and, if_true, if_false, reduceIte, Int.reduceToNat, Int.toNat_natCast, e0, e1, e2, e3, e4]); exact rfl) ?_
  refine w_xS f96_11 (Or.inl rfl) (Nat.le_of_ble_eq_true rfl) rfl rfl ⟨Nat.le_of_ble_eq_true rfl, rfl, Nat.le_of_ble_eq_true rfl⟩ (en132 _ _) rfl rfl (s132) (pv132 _ _) (fun c1 => ?_) (fun c1 => ?_)
  · exact absurd (by assumption) hi
  · rfl
theorem s84t {i x : Int} (hM : RelM r d N h w) (hi : 0 ≤ i ∧ i < w 0) : ev 84 0 [AR 1, AI i, AI x] [] (KS r d, h, R) = some (.inl (AI (ltr w (357 + 7 * i) x)), (KS r d, h, R)) := by
  refine Rn.eq ?_
  have r0 := hM.rd
  obtain ⟨⟨hr, h40⟩, ⟨hd, hx, hz⟩, hn, qr, qs, qS⟩ := hM
  have hl := shRl (r := r) (d := d) r0.1
  obtain ⟨l1, n1, n2, n3, l5, l6, a0, a1, a2, a3, a4, a5, a6, a7, a8⟩ := id hl
  have n11 := n1.1
  have n21 := n2.1
  have n31 := n3.1
  obtain ⟨l51, l52⟩ := id l5
  have k1 := @kd_1 r d
  have k8 := @kd_8 r d
  have k9 := @kd_9 r d
  have k10 := @kd_10 r d
  have k11 := @kd_11 r d
  have k12 := @kd_12 r d
  have k16 := @kd_16 r d
  have k17 := @kd_17 r d
  have k18 := @kd_18 r d
  have k19 := @kd_19 r d
  have k140 := @kd_140 r d
  have k143 := @kd_143 r d
  have e0 : h (r + 1) 2 = w 0 := qr.1.1.1
  have e1 : h (r + 14) 2 = w 1 := qr.1.2.1.1
  have e2 : h (r + 27) 2 = w 2 := qr.1.2.2.1
  have e3 : h r 5 = w 3 := qr.2.2.1
  have e4 : h 11 0 = w 4 := qs.2.1.1
  obtain ⟨v0, v1, v2, v3, v4⟩ := hd.1.1
  obtain ⟨hd1, hd2⟩ := hW_d hd.2.1
  have g := hd.1.2.2.1.1 i hi.1 hi.2
  refine w_iloadn f84_0 rfl ?_
  refine w_aloadn f84_1 rfl (by omega) ?_
  refine w_getR f84_2 (by assumption) rfl (by omega) ?_
  refine w_getR f84_5 (by assumption) rfl (by omega) ?_
  refine w_getI f84_8 (by decide) (by assumption) (by (try simp only [hput, hcopy, Nat.reduceEqDiff, Nat.add_left_cancel_iff, Nat.add_right_cancel_iff, Nat.left_eq_add, Nat.add_eq_left, Nat.right_eq_add, Nat.add_eq_right, Nat.reduceAdd, Nat.add_zero, Nat.succ_ne_self, Nat.one_ne_zero, Nat.zero_ne_one, eq_self, and_self, and_true, true_and, and_false, false_and, if_true, if_false, reduceIte, Int.reduceToNat, Int.toNat_natCast, e0, e1, e2, e3, e4]); exact rfl) ?_
  refine w_xS f84_11 (Or.inl rfl) (Nat.le_of_ble_eq_true rfl) rfl rfl ⟨Nat.le_of_ble_eq_true rfl, rfl, Nat.le_of_ble_eq_true rfl⟩ (en132 _ _) rfl rfl (s132) (pv132 _ _) (fun c1 => ?_) (fun c1 => ?_)
  · refine w_aloadn f84_14 rfl (by omega) ?_
    refine w_getR f84_15 (by assumption) rfl (by omega) ?_
    refine w_getR f84_18 (by assumption) rfl (by omega) ?_
    refine w_iloadn f84_21 rfl ?_
    refine w_iloadn f84_22 rfl ?_
    refine w_cV f84_23 (Or.inl rfl) rfl (by omega) (okd_of (by assumption)) rfl ⟨Nat.le_of_ble_eq_true rfl, rfl, Nat.le_of_ble_eq_true rfl⟩ (en43 _ _ _) (s43 (f := 357) (c := 0) n1 (by omega) qr.1.1 (by show w 0 ≤ 10; omega) hi g) (pv43 _ _) ?_
    refine w_iret f84_26 rfl ?_
    rfl
  · exact absurd hi (by assumption)
theorem s84f {i x : Int} (hM : RelM r d N h w) (hi : ¬ (0 ≤ i ∧ i < w 0)) : ev 84 0 [AR 1, AI i, AI x] [] (KS r d, h, R) = some (.inr 0, bump (KS r d, h, R)) := by
  refine Rn.eq ?_
  have r0 := hM.rd
  obtain ⟨⟨hr, h40⟩, ⟨hd, hx, hz⟩, hn, qr, qs, qS⟩ := hM
  have hl := shRl (r := r) (d := d) r0.1
  obtain ⟨l1, n1, n2, n3, l5, l6, a0, a1, a2, a3, a4, a5, a6, a7, a8⟩ := id hl
  have n11 := n1.1
  have n21 := n2.1
  have n31 := n3.1
  obtain ⟨l51, l52⟩ := id l5
  have k1 := @kd_1 r d
  have k8 := @kd_8 r d
  have k9 := @kd_9 r d
  have k10 := @kd_10 r d
  have k11 := @kd_11 r d
  have k12 := @kd_12 r d
  have k16 := @kd_16 r d
  have k17 := @kd_17 r d
  have k18 := @kd_18 r d
  have k19 := @kd_19 r d
  have k140 := @kd_140 r d
  have k143 := @kd_143 r d
  have e0 : h (r + 1) 2 = w 0 := qr.1.1.1
  have e1 : h (r + 14) 2 = w 1 := qr.1.2.1.1
  have e2 : h (r + 27) 2 = w 2 := qr.1.2.2.1
  have e3 : h r 5 = w 3 := qr.2.2.1
  have e4 : h 11 0 = w 4 := qs.2.1.1
  obtain ⟨v0, v1, v2, v3, v4⟩ := hd.1.1
  obtain ⟨hd1, hd2⟩ := hW_d hd.2.1
  refine w_iloadn f84_0 rfl ?_
  refine w_aloadn f84_1 rfl (by omega) ?_
  refine w_getR f84_2 (by assumption) rfl (by omega) ?_
  refine w_getR f84_5 (by assumption) rfl (by omega) ?_
  refine w_getI f84_8 (by decide) (by assumption) (by (try simp only [hput, hcopy, Nat.reduceEqDiff, Nat.add_left_cancel_iff, Nat.add_right_cancel_iff, Nat.left_eq_add, Nat.add_eq_left, Nat.right_eq_add, Nat.add_eq_right, Nat.reduceAdd, Nat.add_zero, Nat.succ_ne_self, Nat.one_ne_zero, Nat.zero_ne_one, eq_self, and_self, and_true, true_and, and_false, false_and, if_true, if_false, reduceIte, Int.reduceToNat, Int.toNat_natCast, e0, e1, e2, e3, e4]); exact rfl) ?_
  refine w_xS f84_11 (Or.inl rfl) (Nat.le_of_ble_eq_true rfl) rfl rfl ⟨Nat.le_of_ble_eq_true rfl, rfl, Nat.le_of_ble_eq_true rfl⟩ (en132 _ _) rfl rfl (s132) (pv132 _ _) (fun c1 => ?_) (fun c1 => ?_)
  · exact absurd (by assumption) hi
  · rfl
theorem s85t {i x : Int} (hM : RelM r d N h w) (hi : 0 ≤ i ∧ i < w 1) : ev 85 0 [AR 1, AI i, AI x] [] (KS r d, h, R) = some (.inl (AI (ltr w (427 + 7 * i) x)), (KS r d, h, R)) := by
  refine Rn.eq ?_
  have r0 := hM.rd
  obtain ⟨⟨hr, h40⟩, ⟨hd, hx, hz⟩, hn, qr, qs, qS⟩ := hM
  have hl := shRl (r := r) (d := d) r0.1
  obtain ⟨l1, n1, n2, n3, l5, l6, a0, a1, a2, a3, a4, a5, a6, a7, a8⟩ := id hl
  have n11 := n1.1
  have n21 := n2.1
  have n31 := n3.1
  obtain ⟨l51, l52⟩ := id l5
  have k1 := @kd_1 r d
  have k8 := @kd_8 r d
  have k9 := @kd_9 r d
  have k10 := @kd_10 r d
  have k11 := @kd_11 r d
  have k12 := @kd_12 r d
  have k16 := @kd_16 r d
  have k17 := @kd_17 r d
  have k18 := @kd_18 r d
  have k19 := @kd_19 r d
  have k140 := @kd_140 r d
  have k143 := @kd_143 r d
  have e0 : h (r + 1) 2 = w 0 := qr.1.1.1
  have e1 : h (r + 14) 2 = w 1 := qr.1.2.1.1
  have e2 : h (r + 27) 2 = w 2 := qr.1.2.2.1
  have e3 : h r 5 = w 3 := qr.2.2.1
  have e4 : h 11 0 = w 4 := qs.2.1.1
  obtain ⟨v0, v1, v2, v3, v4⟩ := hd.1.1
  obtain ⟨hd1, hd2⟩ := hW_d hd.2.1
  have g := hd.1.2.2.1.2.1 i hi.1 hi.2
  refine w_iloadn f85_0 rfl ?_
  refine w_aloadn f85_1 rfl (by omega) ?_
  refine w_getR f85_2 (by assumption) rfl (by omega) ?_
  refine w_getR f85_5 (by assumption) rfl (by omega) ?_
  refine w_getI f85_8 (by decide) (by assumption) (by (try simp only [hput, hcopy, Nat.reduceEqDiff, Nat.add_left_cancel_iff, Nat.add_right_cancel_iff, Nat.left_eq_add, Nat.add_eq_left, Nat.right_eq_add, Nat.add_eq_right, Nat.reduceAdd, Nat.add_zero, Nat.succ_ne_self, Nat.one_ne_zero, Nat.zero_ne_one, eq_self, and_self, and_true, true_and, and_false, false_and, if_true, if_false, reduceIte, Int.reduceToNat, Int.toNat_natCast, e0, e1, e2, e3, e4]); exact rfl) ?_
  refine w_xS f85_11 (Or.inl rfl) (Nat.le_of_ble_eq_true rfl) rfl rfl ⟨Nat.le_of_ble_eq_true rfl, rfl, Nat.le_of_ble_eq_true rfl⟩ (en132 _ _) rfl rfl (s132) (pv132 _ _) (fun c1 => ?_) (fun c1 => ?_)
  · refine w_aloadn f85_14 rfl (by omega) ?_
    refine w_getR f85_15 (by assumption) rfl (by omega) ?_
    refine w_getR f85_18 (by assumption) rfl (by omega) ?_
    refine w_iloadn f85_21 rfl ?_
    refine w_iloadn f85_22 rfl ?_
    refine w_cV f85_23 (Or.inl rfl) rfl (by omega) (okd_of (by assumption)) rfl ⟨Nat.le_of_ble_eq_true rfl, rfl, Nat.le_of_ble_eq_true rfl⟩ (en43 _ _ _) (s43 (f := 427) (c := 1) n2 (by omega) qr.1.2.1 (by show w 1 ≤ 10; omega) hi g) (pv43 _ _) ?_
    refine w_iret f85_26 rfl ?_
    rfl
  · exact absurd hi (by assumption)
theorem s85f {i x : Int} (hM : RelM r d N h w) (hi : ¬ (0 ≤ i ∧ i < w 1)) : ev 85 0 [AR 1, AI i, AI x] [] (KS r d, h, R) = some (.inr 0, bump (KS r d, h, R)) := by
  refine Rn.eq ?_
  have r0 := hM.rd
  obtain ⟨⟨hr, h40⟩, ⟨hd, hx, hz⟩, hn, qr, qs, qS⟩ := hM
  have hl := shRl (r := r) (d := d) r0.1
  obtain ⟨l1, n1, n2, n3, l5, l6, a0, a1, a2, a3, a4, a5, a6, a7, a8⟩ := id hl
  have n11 := n1.1
  have n21 := n2.1
  have n31 := n3.1
  obtain ⟨l51, l52⟩ := id l5
  have k1 := @kd_1 r d
  have k8 := @kd_8 r d
  have k9 := @kd_9 r d
  have k10 := @kd_10 r d
  have k11 := @kd_11 r d
  have k12 := @kd_12 r d
  have k16 := @kd_16 r d
  have k17 := @kd_17 r d
  have k18 := @kd_18 r d
  have k19 := @kd_19 r d
  have k140 := @kd_140 r d
  have k143 := @kd_143 r d
  have e0 : h (r + 1) 2 = w 0 := qr.1.1.1
  have e1 : h (r + 14) 2 = w 1 := qr.1.2.1.1
  have e2 : h (r + 27) 2 = w 2 := qr.1.2.2.1
  have e3 : h r 5 = w 3 := qr.2.2.1
  have e4 : h 11 0 = w 4 := qs.2.1.1
  obtain ⟨v0, v1, v2, v3, v4⟩ := hd.1.1
  obtain ⟨hd1, hd2⟩ := hW_d hd.2.1
  refine w_iloadn f85_0 rfl ?_
  refine w_aloadn f85_1 rfl (by omega) ?_
  refine w_getR f85_2 (by assumption) rfl (by omega) ?_
  refine w_getR f85_5 (by assumption) rfl (by omega) ?_
  refine w_getI f85_8 (by decide) (by assumption) (by (try simp only [hput, hcopy, Nat.reduceEqDiff, Nat.add_left_cancel_iff, Nat.add_right_cancel_iff, Nat.left_eq_add, Nat.add_eq_left, Nat.right_eq_add, Nat.add_eq_right, Nat.reduceAdd, Nat.add_zero, Nat.succ_ne_self, Nat.one_ne_zero, Nat.zero_ne_one, eq_self, and_self, and_true, true_and, and_false, false_and, if_true, if_false, reduceIte, Int.reduceToNat, Int.toNat_natCast, e0, e1, e2, e3, e4]); exact rfl) ?_
  refine w_xS f85_11 (Or.inl rfl) (Nat.le_of_ble_eq_true rfl) rfl rfl ⟨Nat.le_of_ble_eq_true rfl, rfl, Nat.le_of_ble_eq_true rfl⟩ (en132 _ _) rfl rfl (s132) (pv132 _ _) (fun c1 => ?_) (fun c1 => ?_)
  · exact absurd (by assumption) hi
  · rfl
theorem s86t {i x : Int} (hM : RelM r d N h w) (hi : 0 ≤ i ∧ i < w 2) : ev 86 0 [AR 1, AI i, AI x] [] (KS r d, h, R) = some (.inl (AI (ltr w (483 + 7 * i) x)), (KS r d, h, R)) := by
  refine Rn.eq ?_
  have r0 := hM.rd
  obtain ⟨⟨hr, h40⟩, ⟨hd, hx, hz⟩, hn, qr, qs, qS⟩ := hM
  have hl := shRl (r := r) (d := d) r0.1
  obtain ⟨l1, n1, n2, n3, l5, l6, a0, a1, a2, a3, a4, a5, a6, a7, a8⟩ := id hl
  have n11 := n1.1
  have n21 := n2.1
  have n31 := n3.1
  obtain ⟨l51, l52⟩ := id l5
  have k1 := @kd_1 r d
  have k8 := @kd_8 r d
  have k9 := @kd_9 r d
  have k10 := @kd_10 r d
  have k11 := @kd_11 r d
  have k12 := @kd_12 r d
  have k16 := @kd_16 r d
  have k17 := @kd_17 r d
  have k18 := @kd_18 r d
  have k19 := @kd_19 r d
  have k140 := @kd_140 r d
  have k143 := @kd_143 r d
  have e0 : h (r + 1) 2 = w 0 := qr.1.1.1
  have e1 : h (r + 14) 2 = w 1 := qr.1.2.1.1
  have e2 : h (r + 27) 2 = w 2 := qr.1.2.2.1
  have e3 : h r 5 = w 3 := qr.2.2.1
  have e4 : h 11 0 = w 4 := qs.2.1.1
  obtain ⟨v0, v1, v2, v3, v4⟩ := hd.1.1
  obtain ⟨hd1, hd2⟩ := hW_d hd.2.1
  have g := hd.1.2.2.1.2.2 i hi.1 hi.2
  refine w_iloadn f86_0 rfl ?_
  refine w_aloadn f86_1 rfl (by omega) ?_
  refine w_getR f86_2 (by assumption) rfl (by omega) ?_
  refine w_getR f86_5 (by assumption) rfl (by omega) ?_
  refine w_getI f86_8 (by decide) (by assumption) (by (try simp only [hput, hcopy, Nat.reduceEqDiff, Nat.add_left_cancel_iff, Nat.add_right_cancel_iff, Nat.left_eq_add, Nat.add_eq_left, Nat.right_eq_add, Nat.add_eq_right, Nat.reduceAdd, Nat.add_zero, Nat.succ_ne_self, Nat.one_ne_zero, Nat.zero_ne_one, eq_self, and_self, and_true, true_and, and_false, false_and, if_true, if_false, reduceIte, Int.reduceToNat, Int.toNat_natCast, e0, e1, e2, e3, e4]); exact rfl) ?_
  refine w_xS f86_11 (Or.inl rfl) (Nat.le_of_ble_eq_true rfl) rfl rfl ⟨Nat.le_of_ble_eq_true rfl, rfl, Nat.le_of_ble_eq_true rfl⟩ (en132 _ _) rfl rfl (s132) (pv132 _ _) (fun c1 => ?_) (fun c1 => ?_)
  · refine w_aloadn f86_14 rfl (by omega) ?_
    refine w_getR f86_15 (by assumption) rfl (by omega) ?_
    refine w_getR f86_18 (by assumption) rfl (by omega) ?_
    refine w_iloadn f86_21 rfl ?_
    refine w_iloadn f86_22 rfl ?_
    refine w_cV f86_23 (Or.inl rfl) rfl (by omega) (okd_of (by assumption)) rfl ⟨Nat.le_of_ble_eq_true rfl, rfl, Nat.le_of_ble_eq_true rfl⟩ (en43 _ _ _) (s43 (f := 483) (c := 2) n3 (by omega) qr.1.2.2 (by show w 2 ≤ 10; omega) hi g) (pv43 _ _) ?_
    refine w_iret f86_26 rfl ?_
    rfl
  · exact absurd hi (by assumption)
theorem s86f {i x : Int} (hM : RelM r d N h w) (hi : ¬ (0 ≤ i ∧ i < w 2)) : ev 86 0 [AR 1, AI i, AI x] [] (KS r d, h, R) = some (.inr 0, bump (KS r d, h, R)) := by
  refine Rn.eq ?_
  have r0 := hM.rd
  obtain ⟨⟨hr, h40⟩, ⟨hd, hx, hz⟩, hn, qr, qs, qS⟩ := hM
  have hl := shRl (r := r) (d := d) r0.1
  obtain ⟨l1, n1, n2, n3, l5, l6, a0, a1, a2, a3, a4, a5, a6, a7, a8⟩ := id hl
  have n11 := n1.1
  have n21 := n2.1
  have n31 := n3.1
  obtain ⟨l51, l52⟩ := id l5
  have k1 := @kd_1 r d
  have k8 := @kd_8 r d
  have k9 := @kd_9 r d
  have k10 := @kd_10 r d
  have k11 := @kd_11 r d
  have k12 := @kd_12 r d
  have k16 := @kd_16 r d
  have k17 := @kd_17 r d
  have k18 := @kd_18 r d
  have k19 := @kd_19 r d
  have k140 := @kd_140 r d
  have k143 := @kd_143 r d
  have e0 : h (r + 1) 2 = w 0 := qr.1.1.1
  have e1 : h (r + 14) 2 = w 1 := qr.1.2.1.1
  have e2 : h (r + 27) 2 = w 2 := qr.1.2.2.1
  have e3 : h r 5 = w 3 := qr.2.2.1
  have e4 : h 11 0 = w 4 := qs.2.1.1
  obtain ⟨v0, v1, v2, v3, v4⟩ := hd.1.1
  obtain ⟨hd1, hd2⟩ := hW_d hd.2.1
  refine w_iloadn f86_0 rfl ?_
  refine w_aloadn f86_1 rfl (by omega) ?_
  refine w_getR f86_2 (by assumption) rfl (by omega) ?_
  refine w_getR f86_5 (by assumption) rfl (by omega) ?_
  refine w_getI f86_8 (by decide) (by assumption) (by (try simp only [hput, hcopy, Nat.reduceEqDiff, Nat.add_left_cancel_iff, Nat.add_right_cancel_iff, Nat.left_eq_add, Nat.add_eq_left, Nat.right_eq_add, Nat.add_eq_right, Nat.reduceAdd, Nat.add_zero, Nat.succ_ne_self, Nat.one_ne_zero, Nat.zero_ne_one, eq_self, and_self, and_true, true_and, and_false, false_and, if_true, if_false, reduceIte, Int.reduceToNat, Int.toNat_natCast, e0, e1, e2, e3, e4]); exact rfl) ?_
  refine w_xS f86_11 (Or.inl rfl) (Nat.le_of_ble_eq_true rfl) rfl rfl ⟨Nat.le_of_ble_eq_true rfl, rfl, Nat.le_of_ble_eq_true rfl⟩ (en132 _ _) rfl rfl (s132) (pv132 _ _) (fun c1 => ?_) (fun c1 => ?_)
  · exact absurd (by assumption) hi
  · rfl
end A

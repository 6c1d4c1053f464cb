/-! the class's configurations and invariants -/
section A
variable {K : List AKd} {h : Nat → Nat → Int} {R : R4} {σ : Sg} {r d : Nat} {w : Nat → Int} {b : Nat → Int} {n : Int}
/-- only the objects a, .., a+m-1 have changed -/
def Ot (a m : Nat) (h h1 : Nat → Nat → Int) : Prop := ∀ x y, x < a ∨ a + m ≤ x → h1 x y = h x y
theorem Ot.rf {a m : Nat} : Ot a m h h := fun _ _ _ => rfl
theorem Ot.tr {a m : Nat} {h1 h2 : Nat → Nat → Int} (p : Ot a m h h1) (q : Ot a m h1 h2) : Ot a m h h2 := fun x y z => (q x y z).trans (p x y z)
theorem Ot.up {a m a1 m1 : Nat} {h1 : Nat → Nat → Int} (p : Ot a m h h1) (ha : a1 ≤ a) (hm : a + m ≤ a1 + m1) : Ot a1 m1 h h1 := fun x y z => p x y (by omega)
theorem Ot.put {a m k j : Nat} {v : Int} {h1 : Nat → Nat → Int} (p : Ot a m h h1) (h2 : a ≤ k) (h3 : k < a + m) : Ot a m h (hput h1 k j v) := fun x y z => (if_neg (fun e => by have := e.1; omega)).trans (p x y z)
theorem Ot.cp {a m k j s t n : Nat} {h1 : Nat → Nat → Int} (p : Ot a m h h1) (h2 : a ≤ k) (h3 : k < a + m) : Ot a m h (hcopy h1 j s k t n) := fun x y z => (if_neg (fun e => by have := e.1; omega)).trans (p x y z)
theorem hcp_s {a b n y : Nat} (hy : y < n) : hcopy h a 0 b 0 n b y = h a y := by
  unfold hcopy
  rw [if_pos (by omega)]
  exact congrArg (h a) (by omega)
theorem hcp_k {a b n s t x y : Nat} (hx : x ≠ b) : hcopy h a s b t n x y = h x y := if_neg (fun e => hx e.1)
/-- the configuration k is that of the number c -/
def RCf (h : Nat → Nat → Int) (k : Nat) (c : Int) : Prop := h k 0 = c / 1000 ∧ ∀ j : Nat, j < 3 → h (k + 1) j = vIn c j
theorem RCf.fr {k : Nat} {c : Int} {h1 : Nat → Nat → Int} (q : RCf h k c) (e : ∀ x y, k ≤ x → x ≤ k + 1 → h1 x y = h x y) : RCf h1 k c := ⟨(e _ _ (by omega) (by omega)).trans q.1, fun j hj => (e _ _ (by omega) (by omega)).trans (q.2 j hj)⟩
theorem RCf.ot {k a m : Nat} {c : Int} {h1 : Nat → Nat → Int} (q : RCf h k c) (e : Ot a m h h1) (hd : k + 1 < a ∨ a + m ≤ k) : RCf h1 k c := q.fr (fun x y z1 z2 => e x y (by omega))
theorem RCf.v {k : Nat} {c i : Int} (q : RCf h k c) (hi : 0 ≤ i ∧ i < 3) : h (k + 1) i.toNat = vIn c i := by
  rw [q.2 _ (by omega)]
  exact congrArg (vIn c) (by omega)
theorem vIn0 {c : Int} : vIn c 0 = c % 10 := by
  unfold vIn wt
  rw [if_pos rfl, Int.ediv_one]
theorem vIn1 {c : Int} : vIn c 1 = c / 10 % 10 := by
  unfold vIn wt
  rw [if_neg (by decide), if_pos rfl]
theorem vIn2 {c : Int} : vIn c 2 = c / 100 % 10 := by
  unfold vIn wt
  rw [if_neg (by decide), if_neg (by decide)]
theorem dg (c : Int) : ∃ q x y z : Int, (0 ≤ x ∧ x ≤ 9) ∧ (0 ≤ y ∧ y ≤ 9) ∧ (0 ≤ z ∧ z ≤ 9) ∧ c = 1000 * q + 100 * z + 10 * y + x ∧ c / 1000 = q ∧ vIn c 0 = x ∧ vIn c 1 = y ∧ vIn c 2 = z := by
  have e1 : c / 10 / 10 = c / 100 := by omega
  have e2 : c / 100 / 10 = c / 1000 := by omega
  refine ⟨c / 1000, c % 10, c / 10 % 10, c / 100 % 10, by omega, by omega, by omega, by omega, rfl, vIn0, vIn1, vIn2⟩
theorem dgr {q x y z : Int} (hx : 0 ≤ x ∧ x ≤ 9) (hy : 0 ≤ y ∧ y ≤ 9) (hz : 0 ≤ z ∧ z ≤ 9) : (1000 * q + 100 * z + 10 * y + x) / 1000 = q ∧ (1000 * q + 100 * z + 10 * y + x) % 10 = x ∧ (1000 * q + 100 * z + 10 * y + x) / 10 % 10 = y ∧ (1000 * q + 100 * z + 10 * y + x) / 100 % 10 = z := by
  refine ⟨by omega, by omega, ?_, ?_⟩
  · have : (1000 * q + 100 * z + 10 * y + x) / 10 = 100 * q + 10 * z + y := by omega
    omega
  · have : (1000 * q + 100 * z + 10 * y + x) / 100 = 10 * q + z := by omega
    omega
/-- the class's number of the configuration c -/
def fl (c : Int) : Int := c / 1000 * 1000 + vIn c 0 * 100 + vIn c 1 * 10 + vIn c 2
theorem fl_d (c : Int) : (fl c / 1000 = c / 1000 ∧ vIn (fl c) 0 = vIn c 2 ∧ vIn (fl c) 1 = vIn c 1 ∧ vIn (fl c) 2 = vIn c 0) ∧ (fl c / 1000 = c / 1000 ∧ fl c / 100 % 10 = vIn c 0 ∧ fl c / 10 % 10 = vIn c 1 ∧ fl c % 10 = vIn c 2) ∧ fl c = 1000 * (c / 1000) + 100 * vIn c 0 + 10 * vIn c 1 + vIn c 2 := by
  have e : fl c = 1000 * (c / 1000) + 100 * vIn c 0 + 10 * vIn c 1 + vIn c 2 := by unfold fl; omega
  obtain ⟨a1, a2, a3, a4⟩ := dgr (q := c / 1000) (vIn_r c 2) (vIn_r c 1) (vIn_r c 0)
  rw [← e] at a1 a2 a3 a4
  exact ⟨⟨a1, vIn0.trans a2, vIn1.trans a3, vIn2.trans a4⟩, ⟨a1, a4, a3, a2⟩, e⟩
theorem fl_r {c : Int} (hc : 0 ≤ c ∧ c ≤ 9999) : 0 ≤ fl c ∧ fl c ≤ 9999 := by
  have v0 := vIn_r c 0
  have v1 := vIn_r c 1
  have v2 := vIn_r c 2
  unfold fl
  omega
theorem fl_fl {c : Int} (hc : 0 ≤ c ∧ c ≤ 9999) : fl (fl c) = c := by
  obtain ⟨⟨a1, a2, a3, a4⟩, -, -⟩ := fl_d c
  obtain ⟨q, x, y, z, -, -, -, e, e1, e2, e3, e4⟩ := dg c
  have : fl (fl c) = fl c / 1000 * 1000 + vIn (fl c) 0 * 100 + vIn (fl c) 1 * 10 + vIn (fl c) 2 := rfl
  rw [this, a1, a2, a3, a4, e1, e2, e3, e4]
  omega
theorem fl_st {c : Int} (hc : 0 ≤ c ∧ c ≤ 9999) : fl c / 1000 = c / 1000 := (fl_d c).1.1
theorem fl_inj {c e : Int} (hc : 0 ≤ c ∧ c ≤ 9999) (he : 0 ≤ e ∧ e ≤ 9999) (q : fl c = fl e) : c = e := by
  rw [← fl_fl hc, ← fl_fl he, q]
theorem s1 {k j : Nat} {c : Int} (hk : ShCf (KS r d) k) (hj : ShCf (KS r d) j) (k0 : 0 < k) (j0 : 0 < j) (hd : j + 1 < k ∨ k + 1 < j) (hc : RCf h j c) : Rn (ev 1 0 [AR k, AR j] [] (KS r d, h, R)) (fun o => ∃ h1, (Ot k 2 h h1 ∧ RCf h1 k c) ∧ o = (.inl AU, (KS r d, h1, R))) := by
  obtain ⟨k1, k2⟩ := hk
  obtain ⟨j1, j2⟩ := hj
  refine w_aloadn f1_0 rfl (by omega) ?_
  refine w_aloadn f1_1 rfl (by omega) ?_
  refine w_getI f1_2 (by decide) (by assumption) (by (try simp only [hput, hcopy, Nat.reduceEqDiff, Nat.add_left_cancel_iff, Nat.add_right_cancel_iff, Nat.left_eq_add, Nat.add_eq_left, Nat.right_eq_add, Nat.add_eq_right, Nat.reduceAdd, Nat.add_zero, Nat.succ_ne_self, Nat.one_ne_zero, Nat.zero_ne_one, eq_self, and_self, and_true, true_and, and_false, false_and, if_true, if_false, reduceIte, Int.reduceToNat, Int.toNat_natCast]); exact rfl) ?_
  refine w_putI f1_5 (by assumption) ?_
  refine w_aloadn f1_8 rfl (by omega) ?_
  refine w_getR f1_9 (by assumption) rfl (by omega) ?_
  refine w_iconst (v := 0) f1_12 (by decide) ?_
  refine w_aloadn f1_13 rfl (by omega) ?_
  refine w_getR f1_14 (by assumption) rfl (by omega) ?_
  refine w_iconst (v := 0) f1_17 (by decide) ?_
  refine w_iconst (v := 3) f1_18 (by decide) ?_
  refine w_copy f1_19 (Nat.le_of_ble_eq_true rfl) (by assumption) (by assumption) (by decide) ?_
  refine w_ret f1_22 rfl ?_
  refine ⟨_, ⟨(Ot.rf.put (by omega) (by omega)).cp (by omega) (by omega), (hcp_k (by omega)).trans (hput_s.trans hc.1), fun y hy => (hcp_s hy).trans ((hput_k (by omega)).trans (hc.2 y hy))⟩, rfl⟩
theorem s2 {k : Nat} {c : Int} (hk : ShCf (KS r d) k) (k0 : 0 < k) (hc : RCf h k c) (h1 : 0 ≤ c ∧ c ≤ 9999) : ev 2 0 [AR k] [] (KS r d, h, R) = some (.inl (AI (fl c)), (KS r d, h, R)) := by
  refine Rn.eq ?_
  obtain ⟨k1, k2⟩ := hk
  have e0 := hc.1
  have e1 := hc.2 0 (by decide)
  have e2 := hc.2 1 (by decide)
  have e3 := hc.2 2 (by decide)
  have v0 := vIn_r c ((0 : Nat) : Int)
  have v1 := vIn_r c ((1 : Nat) : Int)
  have v2 := vIn_r c ((2 : Nat) : Int)
  refine w_aloadn f2_0 rfl (by omega) ?_
  refine w_getI f2_1 (by decide) (by assumption) (by (try simp only [hput, hcopy, Nat.reduceEqDiff, Nat.add_left_cancel_iff, Nat.add_right_cancel_iff, Nat.left_eq_add, Nat.add_eq_left, Nat.right_eq_add, Nat.add_eq_right, Nat.reduceAdd, Nat.add_zero, Nat.succ_ne_self, Nat.one_ne_zero, Nat.zero_ne_one, eq_self, and_self, and_true, true_and, and_false, false_and, if_true, if_false, reduceIte, Int.reduceToNat, Int.toNat_natCast]); exact rfl) ?_
  refine w_sipush (v := 1000) f2_4 (by decide) ?_
  refine w_imuln f2_7 (by omega) ?_
  refine w_aloadn f2_8 rfl (by omega) ?_
  refine w_getR f2_9 (by assumption) rfl (by omega) ?_
  refine w_iconst (v := 0) f2_12 (by decide) ?_
  refine w_iald f2_13 (by assumption) (by omega) (by (try simp only [hput, hcopy, Nat.reduceEqDiff, Nat.add_left_cancel_iff, Nat.add_right_cancel_iff, Nat.left_eq_add, Nat.add_eq_left, Nat.right_eq_add, Nat.add_eq_right, Nat.reduceAdd, Nat.add_zero, Nat.succ_ne_self, Nat.one_ne_zero, Nat.zero_ne_one, eq_self, and_self, and_true, true_and, and_false, false_and, if_true, if_false, reduceIte, Int.reduceToNat, Int.toNat_natCast]); exact rfl) ?_
  refine w_bipush (v := 100) f2_14 (by decide) ?_
  refine w_imuln f2_16 (by omega) ?_
  refine w_iaddn f2_17 (by omega) ?_
  refine w_aloadn f2_18 rfl (by omega) ?_
  refine w_getR f2_19 (by assumption) rfl (by omega) ?_
  refine w_iconst (v := 1) f2_22 (by decide) ?_
  refine w_iald f2_23 (by assumption) (by omega) (by (try simp only [hput, hcopy, Nat.reduceEqDiff, Nat.add_left_cancel_iff, Nat.add_right_cancel_iff, Nat.left_eq_add, Nat.add_eq_left, Nat.right_eq_add, Nat.add_eq_right, Nat.reduceAdd, Nat.add_zero, Nat.succ_ne_self, Nat.one_ne_zero, Nat.zero_ne_one, eq_self, and_self, and_true, true_and, and_false, false_and, if_true, if_false, reduceIte, Int.reduceToNat, Int.toNat_natCast]); exact rfl) ?_
  refine w_bipush (v := 10) f2_24 (by decide) ?_
  refine w_imuln f2_26 (by omega) ?_
  refine w_iaddn f2_27 (by omega) ?_
  refine w_aloadn f2_28 rfl (by omega) ?_
  refine w_getR f2_29 (by assumption) rfl (by omega) ?_
  refine w_iconst (v := 2) f2_32 (by decide) ?_
  refine w_iald f2_33 (by assumption) (by omega) (by (try simp only [hput, hcopy, Nat.reduceEqDiff, Nat.add_left_cancel_iff, Nat.add_right_cancel_iff, Nat.left_eq_add, Nat.add_eq_left, Nat.right_eq_add, Nat.add_eq_right, Nat.reduceAdd, Nat.add_zero, Nat.succ_ne_self, Nat.one_ne_zero, Nat.zero_ne_one, eq_self, and_self, and_true, true_and, and_false, false_and, if_true, if_false, reduceIte, Int.reduceToNat, Int.toNat_natCast]); exact rfl) ?_
  refine w_iaddn f2_34 (by omega) ?_
  refine w_iret f2_35 rfl ?_
  rw [e0, e1, e2, e3]; rfl
theorem s3 {k : Nat} {c : Int} (hk : ShCf (KS r d) k) (k0 : 0 < k) (h1 : 0 ≤ c ∧ c ≤ 9999) : Rn (ev 3 0 [AR k, AI (fl c)] [] (KS r d, h, R)) (fun o => ∃ h1, (Ot k 2 h h1 ∧ RCf h1 k c) ∧ o = (.inl AU, (KS r d, h1, R))) := by
  obtain ⟨k1, k2⟩ := hk
  have hf := fl_r h1
  have f0 := fl_st h1
  have f1 : fl c / 100 % 10 = vIn c ((0 : Nat) : Int) := (fl_d c).2.1.2.1
  have f2 : fl c / 10 % 10 = vIn c ((1 : Nat) : Int) := (fl_d c).2.1.2.2.1
  have f3 : fl c % 10 = vIn c ((2 : Nat) : Int) := (fl_d c).2.1.2.2.2
  generalize fl c = x at *
  refine w_aloadn f3_0 rfl (by omega) ?_
  refine w_iloadn f3_1 rfl ?_
  refine w_sipush (v := 1000) f3_2 (by decide) ?_
  refine w_idiv f3_5 (by omega) ?_
  refine w_putI f3_6 (by assumption) ?_
  refine w_aloadn f3_9 rfl (by omega) ?_
  refine w_getR f3_10 (by assumption) rfl (by omega) ?_
  refine w_iconst (v := 0) f3_13 (by decide) ?_
  refine w_iloadn f3_14 rfl ?_
  refine w_bipush (v := 100) f3_15 (by decide) ?_
  refine w_idiv f3_17 (by omega) ?_
  refine w_bipush (v := 10) f3_18 (by decide) ?_
  refine w_irem f3_20 (by omega) ?_
  refine w_iast f3_21 (by assumption) (by omega) ?_
  refine w_aloadn f3_22 rfl (by omega) ?_
  refine w_getR f3_23 (by assumption) rfl (by omega) ?_
  refine w_iconst (v := 1) f3_26 (by decide) ?_
  refine w_iloadn f3_27 rfl ?_
  refine w_bipush (v := 10) f3_28 (by decide) ?_
  refine w_idiv f3_30 (by omega) ?_
  refine w_bipush (v := 10) f3_31 (by decide) ?_
  refine w_irem f3_33 (by omega) ?_
  refine w_iast f3_34 (by assumption) (by omega) ?_
  refine w_aloadn f3_35 rfl (by omega) ?_
  refine w_getR f3_36 (by assumption) rfl (by omega) ?_
  refine w_iconst (v := 2) f3_39 (by decide) ?_
  refine w_iloadn f3_40 rfl ?_
  refine w_bipush (v := 10) f3_41 (by decide) ?_
  refine w_irem f3_43 (by omega) ?_
  refine w_iast f3_44 (by assumption) (by omega) ?_
  refine w_ret f3_45 rfl ?_
  refine ⟨_, ⟨(((Ot.rf.put (by omega) (by omega)).put (by omega) (by omega)).put (by omega) (by omega)).put (by omega) (by omega), (hput_k (by omega)).trans ((hput_k (by omega)).trans ((hput_k (by omega)).trans (hput_s.trans f0))), fun y hy => ?_⟩, rfl⟩
  rcases (show y = 0 ∨ y = 1 ∨ y = 2 by omega) with rfl | rfl | rfl
  · exact (hput_j (by decide)).trans ((hput_j (by decide)).trans (hput_s.trans f1))
  · exact (hput_j (by decide)).trans (hput_s.trans f2)
  · exact hput_s.trans f3
theorem s136 {v op c : Int} : ev 136 0 [AI v, AI op, AI c] [] σ = some (.inl (AI (b2i (cmpB v op c = true))), σ) := by
  refine Rn.eq ?_
  refine w_iloadn f136_0 rfl ?_
  rcases (show op = 0 ∨ op = 1 ∨ op = 2 ∨ op = 3 ∨ op = 4 ∨ (op < 0 ∨ 4 < op) by omega) with c1 | c1 | c1 | c1 | c1 | c1
  · refine w_tab (t := 36) f136_1 (by omega) (by rw [c1]; rfl) (by decide) ?_
    refine w_iloadn f136_36 rfl ?_
    refine w_iloadn f136_37 rfl ?_
    refine w_ic_ge (t := 45) f136_38 (by decide) (fun c2 => ?_) (fun c2 => ?_)
    · refine w_iconst (v := 0) f136_45 (by decide) ?_
      refine w_zret f136_46 rfl (by decide) ?_
      first | (refine ob_t ?_; unfold cmpB; simp [*]; done) | (refine ob_f ?_; unfold cmpB; simp [*]; done) | (refine ob_t ?_; unfold cmpB; rw [if_neg (by omega), if_neg (by omega), if_neg (by omega), if_neg (by omega), if_neg (by omega)]; simp [*]; done) | (refine ob_f ?_; unfold cmpB; rw [if_neg (by omega), if_neg (by omega), if_neg (by omega), if_neg (by omega), if_neg (by omega)]; simp [*]; done)
    · refine w_iconst (v := 1) f136_41 (by decide) ?_
      refine w_goto (t := 46) f136_42 (by decide) ?_
      refine w_zret f136_46 rfl (by decide) ?_
      first | (refine ob_t ?_; unfold cmpB; simp [*]; done) | (refine ob_f ?_; unfold cmpB; simp [*]; done) | (refine ob_t ?_; unfold cmpB; rw [if_neg (by omega), if_neg (by omega), if_neg (by omega), if_neg (by omega), if_neg (by omega)]; simp [*]; done) | (refine ob_f ?_; unfold cmpB; rw [if_neg (by omega), if_neg (by omega), if_neg (by omega), if_neg (by omega), if_neg (by omega)]; simp [*]; done)
  · refine w_tab (t := 47) f136_1 (by omega) (by rw [c1]; rfl) (by decide) ?_
    refine w_iloadn f136_47 rfl ?_
    refine w_iloadn f136_48 rfl ?_
    refine w_ic_gt (t := 56) f136_49 (by decide) (fun c3 => ?_) (fun c3 => ?_)
    · refine w_iconst (v := 0) f136_56 (by decide) ?_
      refine w_zret f136_57 rfl (by decide) ?_
      first | (refine ob_t ?_; unfold cmpB; simp [*]; done) | (refine ob_f ?_; unfold cmpB; simp [*]; done) | (refine ob_t ?_; unfold cmpB; rw [if_neg (by omega), if_neg (by omega), if_neg (by omega), if_neg (by omega), if_neg (by omega)]; simp [*]; done) | (refine ob_f ?_; unfold cmpB; rw [if_neg (by omega), if_neg (by omega), if_neg (by omega), if_neg (by omega), if_neg (by omega)]; simp [*]; done)
    · refine w_iconst (v := 1) f136_52 (by decide) ?_
      refine w_goto (t := 57) f136_53 (by decide) ?_
      refine w_zret f136_57 rfl (by decide) ?_
      first | (refine ob_t ?_; unfold cmpB; simp [*]; done) | (refine ob_f ?_; unfold cmpB; simp [*]; done) | (refine ob_t ?_; unfold cmpB; rw [if_neg (by omega), if_neg (by omega), if_neg (by omega), if_neg (by omega), if_neg (by omega)]; simp [*]; done) | (refine ob_f ?_; unfold cmpB; rw [if_neg (by omega), if_neg (by omega), if_neg (by omega), if_neg (by omega), if_neg (by omega)]; simp [*]; done)
  · refine w_tab (t := 58) f136_1 (by omega) (by rw [c1]; rfl) (by decide) ?_
    refine w_iloadn f136_58 rfl ?_
    refine w_iloadn f136_59 rfl ?_
    refine w_ic_ne (t := 67) f136_60 (by decide) (fun c4 => ?_) (fun c4 => ?_)
    · refine w_iconst (v := 0) f136_67 (by decide) ?_
      refine w_zret f136_68 rfl (by decide) ?_
      first | (refine ob_t ?_; unfold cmpB; simp [*]; done) | (refine ob_f ?_; unfold cmpB; simp [*]; done) | (refine ob_t ?_; unfold cmpB; rw [if_neg (by omega), if_neg (by omega), if_neg (by omega), if_neg (by omega), if_neg (by omega)]; simp [*]; done) | (refine ob_f ?_; unfold cmpB; rw [if_neg (by omega), if_neg (by omega), if_neg (by omega), if_neg (by omega), if_neg (by omega)]; simp [*]; done)
    · refine w_iconst (v := 1) f136_63 (by decide) ?_
      refine w_goto (t := 68) f136_64 (by decide) ?_
      refine w_zret f136_68 rfl (by decide) ?_
      first | (refine ob_t ?_; unfold cmpB; simp [*]; done) | (refine ob_f ?_; unfold cmpB; simp [*]; done) | (refine ob_t ?_; unfold cmpB; rw [if_neg (by omega), if_neg (by omega), if_neg (by omega), if_neg (by omega), if_neg (by omega)]; simp [*]; done) | (refine ob_f ?_; unfold cmpB; rw [if_neg (by omega), if_neg (by omega), if_neg (by omega), if_neg (by omega), if_neg (by omega)]; simp [*]; done)
  · refine w_tab (t := 69) f136_1 (by omega) (by rw [c1]; rfl) (by decide) ?_
    refine w_iloadn f136_69 rfl ?_
    refine w_iloadn f136_70 rfl ?_
    refine w_ic_eq (t := 78) f136_71 (by decide) (fun c5 => ?_) (fun c5 => ?_)
    · refine w_iconst (v := 0) f136_78 (by decide) ?_
      refine w_zret f136_79 rfl (by decide) ?_
      first | (refine ob_t ?_; unfold cmpB; simp [*]; done) | (refine ob_f ?_; unfold cmpB; simp [*]; done) | (refine ob_t ?_; unfold cmpB; rw [if_neg (by omega), if_neg (by omega), if_neg (by omega), if_neg (by omega), if_neg (by omega)]; simp [*]; done) | (refine ob_f ?_; unfold cmpB; rw [if_neg (by omega), if_neg (by omega), if_neg (by omega), if_neg (by omega), if_neg (by omega)]; simp [*]; done)
    · refine w_iconst (v := 1) f136_74 (by decide) ?_
      refine w_goto (t := 79) f136_75 (by decide) ?_
      refine w_zret f136_79 rfl (by decide) ?_
      first | (refine ob_t ?_; unfold cmpB; simp [*]; done) | (refine ob_f ?_; unfold cmpB; simp [*]; done) | (refine ob_t ?_; unfold cmpB; rw [if_neg (by omega), if_neg (by omega), if_neg (by omega), if_neg (by omega), if_neg (by omega)]; simp [*]; done) | (refine ob_f ?_; unfold cmpB; rw [if_neg (by omega), if_neg (by omega), if_neg (by omega), if_neg (by omega), if_neg (by omega)]; simp [*]; done)
  · refine w_tab (t := 80) f136_1 (by omega) (by rw [c1]; rfl) (by decide) ?_
    refine w_iloadn f136_80 rfl ?_
    refine w_iloadn f136_81 rfl ?_
    refine w_ic_lt (t := 89) f136_82 (by decide) (fun c6 => ?_) (fun c6 => ?_)
    · refine w_iconst (v := 0) f136_89 (by decide) ?_
      refine w_zret f136_90 rfl (by decide) ?_
      first | (refine ob_t ?_; unfold cmpB; simp [*]; done) | (refine ob_f ?_; unfold cmpB; simp [*]; done) | (refine ob_t ?_; unfold cmpB; rw [if_neg (by omega), if_neg (by omega), if_neg (by omega), if_neg (by omega), if_neg (by omega)]; simp [*]; done) | (refine ob_f ?_; unfold cmpB; rw [if_neg (by omega), if_neg (by omega), if_neg (by omega), if_neg (by omega), if_neg (by omega)]; simp [*]; done)
    · refine w_iconst (v := 1) f136_85 (by decide) ?_
      refine w_goto (t := 90) f136_86 (by decide) ?_
      refine w_zret f136_90 rfl (by decide) ?_
      first | (refine ob_t ?_; unfold cmpB; simp [*]; done) | (refine ob_f ?_; unfold cmpB; simp [*]; done) | (refine ob_t ?_; unfold cmpB; rw [if_neg (by omega), if_neg (by omega), if_neg (by omega), if_neg (by omega), if_neg (by omega)]; simp [*]; done) | (refine ob_f ?_; unfold cmpB; rw [if_neg (by omega), if_neg (by omega), if_neg (by omega), if_neg (by omega), if_neg (by omega)]; simp [*]; done)
  · refine w_tabd (t := 91) f136_1 (by omega) (by decide) ?_
    refine w_iloadn f136_91 rfl ?_
    refine w_iloadn f136_92 rfl ?_
    refine w_ic_le (t := 100) f136_93 (by decide) (fun c7 => ?_) (fun c7 => ?_)
    · refine w_iconst (v := 0) f136_100 (by decide) ?_
      refine w_zret f136_101 rfl (by decide) ?_
      first | (refine ob_t ?_; unfold cmpB; simp [*]; done) | (refine ob_f ?_; unfold cmpB; simp [*]; done) | (refine ob_t ?_; unfold cmpB; rw [if_neg (by omega), if_neg (by omega), if_neg (by omega), if_neg (by omega), if_neg (by omega)]; simp [*]; done) | (refine ob_f ?_; unfold cmpB; rw [if_neg (by omega), if_neg (by omega), if_neg (by omega), if_neg (by omega), if_neg (by omega)]; simp [*]; done)
    · refine w_iconst (v := 1) f136_96 (by decide) ?_
      refine w_goto (t := 101) f136_97 (by decide) ?_
      refine w_zret f136_101 rfl (by decide) ?_
      first | (refine ob_t ?_; unfold cmpB; simp [*]; done) | (refine ob_f ?_; unfold cmpB; simp [*]; done) | (refine ob_t ?_; unfold cmpB; rw [if_neg (by omega), if_neg (by omega), if_neg (by omega), if_neg (by omega), if_neg (by omega)]; simp [*]; done) | (refine ob_f ?_; unfold cmpB; rw [if_neg (by omega), if_neg (by omega), if_neg (by omega), if_neg (by omega), if_neg (by omega)]; simp [*]; done)
/-- the invariants k are those of w -/
def RIv (h : Nat → Nat → Int) (k : Nat) (w : Nat → Int) : Prop := h k 0 = w 4 ∧ ∀ i : Nat, (i : Int) < w 4 → h (k + 1) i = iv w i 0 ∧ h (k + 2) i = iv w i 1 ∧ h (k + 3) i = iv w i 2 ∧ h (k + 4) i = iv w i 3
theorem RIv.fr {k : Nat} {h1 : Nat → Nat → Int} (q : RIv h k w) (e : ∀ x y, k ≤ x → x < k + 5 → h1 x y = h x y) : RIv h1 k w := by
  refine ⟨(e _ _ (by omega) (by omega)).trans q.1, fun i hi => ?_⟩
  rw [e _ _ (by omega) (by omega), e _ _ (by omega) (by omega), e _ _ (by omega) (by omega), e _ _ (by omega) (by omega)]
  exact q.2 i hi
theorem RIv.ot {k a m : Nat} {h1 : Nat → Nat → Int} (q : RIv h k w) (e : Ot a m h h1) (hd : k + 5 ≤ a ∨ a + m ≤ k) : RIv h1 k w := q.fr (fun x y z1 z2 => e x y (by omega))
theorem RIv.ag {k : Nat} {u : Nat → Int} (q : RIv h k w) (h4 : 0 ≤ w 4 ∧ w 4 ≤ 12) (e4 : u 4 = w 4) (e : ∀ y, 309 ≤ y → y < 357 → u y = w y) : RIv h k u := by
  refine ⟨q.1.trans e4.symm, fun i hi => ?_⟩
  unfold iv
  rw [e _ (by omega) (by omega), e _ (by omega) (by omega), e _ (by omega) (by omega), e _ (by omega) (by omega)]
  exact q.2 i (by omega)
theorem RIv.v {k : Nat} {i : Int} (q : RIv h k w) (hi : 0 ≤ i ∧ i < w 4) : h (k + 1) i.toNat = iv w i 0 ∧ h (k + 2) i.toNat = iv w i 1 ∧ h (k + 3) i.toNat = iv w i 2 ∧ h (k + 4) i.toNat = iv w i 3 := by
  have z := q.2 i.toNat (by omega)
  have e : ((i.toNat : Nat) : Int) = i := by omega
  rw [e] at z
  exact z
theorem s39 {k j : Nat} {c i : Int} (hk : ShIv (KS r d) k) (hj : ShCf (KS r d) j) (k0 : 0 < k) (j0 : 0 < j) (hv : RIv h k w) (hc : RCf h j c) (h4 : w 4 ≤ 12) (hi : 0 ≤ i ∧ i < w 4) (hw : 0 ≤ iv w i 1 ∧ iv w i 1 < 3) : ev 39 0 [AR k, AI i, AR j] [] (KS r d, h, R) = some (.inl (AI (b2i (cmpB (vIn c (iv w i 1)) (iv w i 2) (iv w i 3) = true))), (KS r d, h, R)) := by
  refine Rn.eq ?_
  obtain ⟨k1, k2, k3, k4, k5⟩ := hk
  obtain ⟨j1, j2⟩ := hj
  obtain ⟨e1, e2, e3, e4⟩ := hv.v hi
  have e5 := hc.v hw
  refine w_aloadn f39_0 rfl (by omega) ?_
  refine w_getR f39_1 (by assumption) rfl (by omega) ?_
  refine w_aloadn f39_4 rfl (by omega) ?_
  refine w_getR f39_5 (by assumption) rfl (by omega) ?_
  refine w_iloadn f39_8 rfl ?_
  refine w_iald f39_9 (by assumption) (by omega) (by (try simp only [hput, hcopy, Nat.reduceEqDiff, Nat.add_left_cancel_iff, Nat.add_right_cancel_iff, Nat.left_eq_add, Nat.add_eq_left, Nat.right_eq_add, Nat.add_eq_right, Nat.reduceAdd, Nat.add_zero, Nat.succ_ne_self, Nat.one_ne_zero, Nat.zero_ne_one, eq_self, and_self, and_true, true_and, and_false, false_and, if_true, if_false, reduceIte, Int.reduceToNat, Int.toNat_natCast, e1, e2, e3, e4, e5]); exact rfl) ?_
  refine w_iald f39_10 (by assumption) (by omega) (by (try simp only [hput, hcopy, Nat.reduceEqDiff, Nat.add_left_cancel_iff, Nat.add_right_cancel_iff, Nat.left_eq_add, Nat.add_eq_left, Nat.right_eq_add, Nat.add_eq_right, Nat.reduceAdd, Nat.add_zero, Nat.succ_ne_self, Nat.one_ne_zero, Nat.zero_ne_one, eq_self, and_self, and_true, true_and, and_false, false_and, if_true, if_false, reduceIte, Int.reduceToNat, Int.toNat_natCast, e1, e2, e3, e4, e5]); exact rfl) ?_
  refine w_aloadn f39_11 rfl (by omega) ?_
  refine w_getR f39_12 (by assumption) rfl (by omega) ?_
  refine w_iloadn f39_15 rfl ?_
  refine w_iald f39_16 (by assumption) (by omega) (by (try simp only [hput, hcopy, Nat.reduceEqDiff, Nat.add_left_cancel_iff, Nat.add_right_cancel_iff, Nat.left_eq_add, Nat.add_eq_left, Nat.right_eq_add, Nat.add_eq_right, Nat.reduceAdd, Nat.add_zero, Nat.succ_ne_self, Nat.one_ne_zero, Nat.zero_ne_one, eq_self, and_self, and_true, true_and, and_false, false_and, if_true, if_false, reduceIte, Int.reduceToNat, Int.toNat_natCast, e1, e2, e3, e4, e5]); exact rfl) ?_
  refine w_aloadn f39_17 rfl (by omega) ?_
  refine w_getR f39_18 (by assumption) rfl (by omega) ?_
  refine w_iloadn f39_21 rfl ?_
  refine w_iald f39_22 (by assumption) (by omega) (by (try simp only [hput, hcopy, Nat.reduceEqDiff, Nat.add_left_cancel_iff, Nat.add_right_cancel_iff, Nat.left_eq_add, Nat.add_eq_left, Nat.right_eq_add, Nat.add_eq_right, Nat.reduceAdd, Nat.add_zero, Nat.succ_ne_self, Nat.one_ne_zero, Nat.zero_ne_one, eq_self, and_self, and_true, true_and, and_false, false_and, if_true, if_false, reduceIte, Int.reduceToNat, Int.toNat_natCast, e1, e2, e3, e4, e5]); exact rfl) ?_
  refine w_cS f39_23 (Or.inr rfl) (Nat.le_of_ble_eq_true rfl) rfl rfl ⟨Nat.le_of_ble_eq_true rfl, rfl, Nat.le_of_ble_eq_true rfl⟩ (en136 _ _ _) (s136) (pv136 _ _) ?_
  refine w_zret f39_26 rfl (b2i_01 _) ?_
  rfl
theorem l40 {k j : Nat} {c : Int} (hk : ShIv (KS r d) k) (hj : ShCf (KS r d) j) (k0 : 0 < k) (j0 : 0 < j) (hv : RIv h k w) (hc : RCf h j c) (h4 : w 4 ≤ 12) (hw : ∀ i, 0 ≤ i → i < w 4 → 0 ≤ iv w i 1 ∧ iv w i 1 < 3) : ∀ (f : Nat) (i : Int), 0 ≤ i → i + f = w 4 → ev 40 2 [AR k, AR j, AI i] [] (KS r d, h, R) = some (.inl (AI (fbG w c f i)), (KS r d, h, R)) := by
  intro f
  have hk1 := hk
  have hj1 := hj
  obtain ⟨k1, k2, k3, k4, k5⟩ := hk
  obtain ⟨j1, j2⟩ := hj
  have e0 := hv.1
  have g0 := hc.1
  induction f with
  | zero =>
    intro i h1 h2
    refine Rn.eq ?_
    refine w_iloadn f40_2 rfl ?_
    refine w_aloadn f40_3 rfl (by omega) ?_
    refine w_getI f40_4 (by decide) (by assumption) (by (try simp only [hput, hcopy, Nat.reduceEqDiff, Nat.add_left_cancel_iff, Nat.add_right_cancel_iff, Nat.left_eq_add, Nat.add_eq_left, Nat.right_eq_add, Nat.add_eq_right, Nat.reduceAdd, Nat.add_zero, Nat.succ_ne_self, Nat.one_ne_zero, Nat.zero_ne_one, eq_self, and_self, and_true, true_and, and_false, false_and, if_true, if_false, reduceIte, Int.reduceToNat, Int.toNat_natCast, e0]); exact rfl) ?_
    refine w_ic_ge (t := 50) f40_7 (by decide) (fun c1 => ?_) (fun c1 => by omega)
    refine w_iconst (v := -1) f40_50 (by decide) ?_
    refine w_iret f40_51 rfl ?_
    rfl
  | succ f ih =>
    intro i h1 h2
    refine Rn.eq ?_
    obtain ⟨e1, e2, e3, e4⟩ := hv.v (show 0 ≤ i ∧ i < w 4 by omega)
    refine w_iloadn f40_2 rfl ?_
    refine w_aloadn f40_3 rfl (by omega) ?_
    refine w_getI f40_4 (by decide) (by assumption) (by (try simp only [hput, hcopy, Nat.reduceEqDiff, Nat.add_left_cancel_iff, Nat.add_right_cancel_iff, Nat.left_eq_add, Nat.add_eq_left, Nat.right_eq_add, Nat.add_eq_right, Nat.reduceAdd, Nat.add_zero, Nat.succ_ne_self, Nat.one_ne_zero, Nat.zero_ne_one, eq_self, and_self, and_true, true_and, and_false, false_and, if_true, if_false, reduceIte, Int.reduceToNat, Int.toNat_natCast, e0, e1, g0]); exact rfl) ?_
    refine w_ic_ge (t := 50) f40_7 (by decide) (fun c1 => by omega) (fun c1 => ?_)
    refine w_aloadn f40_10 rfl (by omega) ?_
    refine w_getR f40_11 (by assumption) rfl (by omega) ?_
    refine w_iloadn f40_14 rfl ?_
    refine w_iald f40_15 (by assumption) (by omega) (by (try simp only [hput, hcopy, Nat.reduceEqDiff, Nat.add_left_cancel_iff, Nat.add_right_cancel_iff, Nat.left_eq_add, Nat.add_eq_left, Nat.right_eq_add, Nat.add_eq_right, Nat.reduceAdd, Nat.add_zero, Nat.succ_ne_self, Nat.one_ne_zero, Nat.zero_ne_one, eq_self, and_self, and_true, true_and, and_false, false_and, if_true, if_false, reduceIte, Int.reduceToNat, Int.toNat_natCast, e0, e1, g0]); exact rfl) ?_
    refine w_iconst (v := -1) f40_16 (by decide) ?_
    refine w_ic_eq (t := 33) f40_17 (by decide) (fun c2 => ?_) (fun c2 => ?_)
    · refine w_aloadn f40_33 rfl (by omega) ?_
      refine w_iloadn f40_34 rfl ?_
      refine w_aloadn f40_35 rfl (by omega) ?_
      refine w_cV f40_36 (Or.inl rfl) rfl (by omega) (okd_of (by assumption)) rfl ⟨Nat.le_of_ble_eq_true rfl, rfl, Nat.le_of_ble_eq_true rfl⟩ (en39 _ _ _) (s39 hk1 hj1 k0 j0 hv hc h4 ⟨by omega, by omega⟩ (hw _ (by omega) (by omega))) (pv39 _ _) ?_
      refine w_ifb_ne (t := 44) f40_39 (by decide) (fun c3 => ?_) (fun c3 => ?_)
      · refine w_iincn f40_44 rfl (by omega) (sto_3_2 rfl) ?_
        refine w_goto (t := 2) f40_47 (by decide) ?_
        refine Rn.to (ih _ (by omega) (by omega)) ?_
        have z : ¬ brk w c i = true := by unfold brk; simp [*]
        simp only [fbG, z, if_false]; rfl
      · refine w_iloadn f40_42 rfl ?_
        refine w_iret f40_43 rfl ?_
        have z : brk w c i = true := by unfold brk; simp [*]
        simp only [fbG, z, if_true]
    · refine w_aloadn f40_20 rfl (by omega) ?_
      refine w_getR f40_21 (by assumption) rfl (by omega) ?_
      refine w_iloadn f40_24 rfl ?_
      refine w_iald f40_25 (by assumption) (by omega) (by (try simp only [hput, hcopy, Nat.reduceEqDiff, Nat.add_left_cancel_iff, Nat.add_right_cancel_iff, Nat.left_eq_add, Nat.add_eq_left, Nat.right_eq_add, Nat.add_eq_right, Nat.reduceAdd, Nat.add_zero, Nat.succ_ne_self, Nat.one_ne_zero, Nat.zero_ne_one, eq_self, and_self, and_true, true_and, and_false, false_and, if_true, if_false, reduceIte, Int.reduceToNat, Int.toNat_natCast, e0, e1, g0]); exact rfl) ?_
      refine w_aloadn f40_26 rfl (by omega) ?_
      refine w_getI f40_27 (by decide) (by assumption) (by (try simp only [hput, hcopy, Nat.reduceEqDiff, Nat.add_left_cancel_iff, Nat.add_right_cancel_iff, Nat.left_eq_add, Nat.add_eq_left, Nat.right_eq_add, Nat.add_eq_right, Nat.reduceAdd, Nat.add_zero, Nat.succ_ne_self, Nat.one_ne_zero, Nat.zero_ne_one, eq_self, and_self, and_true, true_and, and_false, false_and, if_true, if_false, reduceIte, Int.reduceToNat, Int.toNat_natCast, e0, e1, g0]); exact rfl) ?_
      refine w_ic_ne (t := 44) f40_30 (by decide) (fun c4 => ?_) (fun c4 => ?_)
      · refine w_iincn f40_44 rfl (by omega) (sto_3_2 rfl) ?_
        refine w_goto (t := 2) f40_47 (by decide) ?_
        refine Rn.to (ih _ (by omega) (by omega)) ?_
        have z : ¬ brk w c i = true := by unfold brk; simp [*]
        simp only [fbG, z, if_false]; rfl
      · refine w_aloadn f40_33 rfl (by omega) ?_
        refine w_iloadn f40_34 rfl ?_
        refine w_aloadn f40_35 rfl (by omega) ?_
        refine w_cV f40_36 (Or.inl rfl) rfl (by omega) (okd_of (by assumption)) rfl ⟨Nat.le_of_ble_eq_true rfl, rfl, Nat.le_of_ble_eq_true rfl⟩ (en39 _ _ _) (s39 hk1 hj1 k0 j0 hv hc h4 ⟨by omega, by omega⟩ (hw _ (by omega) (by omega))) (pv39 _ _) ?_
        refine w_ifb_ne (t := 44) f40_39 (by decide) (fun c5 => ?_) (fun c5 => ?_)
        · refine w_iincn f40_44 rfl (by omega) (sto_3_2 rfl) ?_
          refine w_goto (t := 2) f40_47 (by decide) ?_
          refine Rn.to (ih _ (by omega) (by omega)) ?_
          have z : ¬ brk w c i = true := by unfold brk; simp [*]
          simp only [fbG, z, if_false]; rfl
        · refine w_iloadn f40_42 rfl ?_
          refine w_iret f40_43 rfl ?_
          have z : brk w c i = true := by unfold brk; simp [*]
          simp only [fbG, z, if_true]
theorem s40 {k j : Nat} {c : Int} (hk : ShIv (KS r d) k) (hj : ShCf (KS r d) j) (k0 : 0 < k) (j0 : 0 < j) (hv : RIv h k w) (hc : RCf h j c) (h4 : 0 ≤ w 4 ∧ w 4 ≤ 12) (hw : ∀ i, 0 ≤ i → i < w 4 → 0 ≤ iv w i 1 ∧ iv w i 1 < 3) : ev 40 0 [AR k, AR j, AU] [] (KS r d, h, R) = some (.inl (AI (fb w c)), (KS r d, h, R)) := by
  refine Rn.eq ?_
  refine w_iconst (v := 0) f40_0 (by decide) ?_
  refine w_istoren f40_1 (Nat.le_of_ble_eq_true rfl) (sto_3_2 rfl) ?_
  exact Rn.to (l40 hk hj k0 j0 hv hc h4.2 hw _ _ (by omega) (by omega)) rfl
theorem s41 {k j : Nat} (hk : ShIv (KS r d) k) (hj : ShIv (KS r d) j) (k0 : 0 < k) (j0 : 0 < j) (hd : j + 4 < k ∨ k + 4 < j) (h4 : 0 ≤ w 4 ∧ w 4 ≤ 12) (hv : RIv h j w) : Rn (ev 41 0 [AR k, AR j] [] (KS r d, h, R)) (fun o => ∃ h1, (Ot k 5 h h1 ∧ RIv h1 k w) ∧ o = (.inl AU, (KS r d, h1, R))) := by
  obtain ⟨k1, k2, k3, k4, k5⟩ := hk
  obtain ⟨j1, j2, j3, j4, j5⟩ := hj
  refine w_aloadn f41_0 rfl (by omega) ?_
  refine w_aloadn f41_1 rfl (by omega) ?_
  refine w_getI f41_2 (by decide) (by assumption) (by (try simp only [hput, hcopy, Nat.reduceEqDiff, Nat.add_left_cancel_iff, Nat.add_right_cancel_iff, Nat.left_eq_add, Nat.add_eq_left, Nat.right_eq_add, Nat.add_eq_right, Nat.reduceAdd, Nat.add_zero, Nat.succ_ne_self, Nat.one_ne_zero, Nat.zero_ne_one, eq_self, and_self, and_true, true_and, and_false, false_and, if_true, if_false, reduceIte, Int.reduceToNat, Int.toNat_natCast]); exact rfl) ?_
  refine w_putI f41_5 (by assumption) ?_
  refine w_aloadn f41_8 rfl (by omega) ?_
  refine w_getR f41_9 (by assumption) rfl (by omega) ?_
  refine w_iconst (v := 0) f41_12 (by decide) ?_
  refine w_aloadn f41_13 rfl (by omega) ?_
  refine w_getR f41_14 (by assumption) rfl (by omega) ?_
  refine w_iconst (v := 0) f41_17 (by decide) ?_
  refine w_bipush (v := 12) f41_18 (by decide) ?_
  refine w_copy f41_20 (Nat.le_of_ble_eq_true rfl) (by assumption) (by assumption) (by decide) ?_
  refine w_aloadn f41_23 rfl (by omega) ?_
  refine w_getR f41_24 (by assumption) rfl (by omega) ?_
  refine w_iconst (v := 0) f41_27 (by decide) ?_
  refine w_aloadn f41_28 rfl (by omega) ?_
  refine w_getR f41_29 (by assumption) rfl (by omega) ?_
  refine w_iconst (v := 0) f41_32 (by decide) ?_
  refine w_bipush (v := 12) f41_33 (by decide) ?_
  refine w_copy f41_35 (Nat.le_of_ble_eq_true rfl) (by assumption) (by assumption) (by decide) ?_
  refine w_aloadn f41_38 rfl (by omega) ?_
  refine w_getR f41_39 (by assumption) rfl (by omega) ?_
  refine w_iconst (v := 0) f41_42 (by decide) ?_
  refine w_aloadn f41_43 rfl (by omega) ?_
  refine w_getR f41_44 (by assumption) rfl (by omega) ?_
  refine w_iconst (v := 0) f41_47 (by decide) ?_
  refine w_bipush (v := 12) f41_48 (by decide) ?_
  refine w_copy f41_50 (Nat.le_of_ble_eq_true rfl) (by assumption) (by assumption) (by decide) ?_
  refine w_aloadn f41_53 rfl (by omega) ?_
  refine w_getR f41_54 (by assumption) rfl (by omega) ?_
  refine w_iconst (v := 0) f41_57 (by decide) ?_
  refine w_aloadn f41_58 rfl (by omega) ?_
  refine w_getR f41_59 (by assumption) rfl (by omega) ?_
  refine w_iconst (v := 0) f41_62 (by decide) ?_
  refine w_bipush (v := 12) f41_63 (by decide) ?_
  refine w_copy f41_65 (Nat.le_of_ble_eq_true rfl) (by assumption) (by assumption) (by decide) ?_
  refine w_ret f41_68 rfl ?_
  refine ⟨_, ⟨((((Ot.rf.put (by omega) (by omega)).cp (by omega) (by omega)).cp (by omega) (by omega)).cp (by omega) (by omega)).cp (by omega) (by omega), ?_, fun i hi => ?_⟩, rfl⟩
  · exact (hcp_k (by omega)).trans ((hcp_k (by omega)).trans ((hcp_k (by omega)).trans ((hcp_k (by omega)).trans (hput_s.trans hv.1))))
  · obtain ⟨a1, a2, a3, a4⟩ := hv.2 i hi
    refine ⟨?_, ?_, ?_, ?_⟩
    · exact (hcp_k (by omega)).trans ((hcp_k (by omega)).trans ((hcp_k (by omega)).trans ((hcp_s (by show i < 12; omega)).trans ((hput_k (by omega)).trans a1))))
    · exact (hcp_k (by omega)).trans ((hcp_k (by omega)).trans ((hcp_s (by show i < 12; omega)).trans ((hcp_k (by omega)).trans ((hput_k (by omega)).trans a2))))
    · exact (hcp_k (by omega)).trans ((hcp_s (by show i < 12; omega)).trans ((hcp_k (by omega)).trans ((hcp_k (by omega)).trans ((hput_k (by omega)).trans a3))))
    · exact (hcp_s (by show i < 12; omega)).trans ((hcp_k (by omega)).trans ((hcp_k (by omega)).trans ((hcp_k (by omega)).trans ((hput_k (by omega)).trans a4))))
end A

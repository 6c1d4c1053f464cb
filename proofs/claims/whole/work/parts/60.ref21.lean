/-! the reference's reading: numbers, names -/
section A
variable {K : List AKd} {h : Nat → Nat → Int} {R : R4} {σ : Sg} {r d : Nat} {w : Nat → Int} {b : Nat → Int} {n : Int}
def setN (s : PS) (k : Int) (v : Int) : PS := (s.1, s.2.1, udI s.2.2 k.toNat v)
def mNum (b : Nat → Int) (n : Int) (k : Int) (s : PS) : PM := if s.2.1.2.2.2 ≠ 2 then err 1 s else if ¬ (0 ≤ s.2.1.2.2.1 ∧ s.2.1.2.2.1 ≤ 9) then err 2 s else .inr (setN (adv b n s) k s.2.1.2.2.1)
theorem s195 {h0 : Nat → Nat → Int} {s : PS} (hP : PX h0 b n s h) : Rn (ev 195 0 [AR 268, AI 0, AI 9] [] (KS r d, h, R)) (fun o => (s.2.1.2.2.2 ≠ 2 ∧ ∃ h1, PF h0 (1, s.2.1.1, s.1) h1 ∧ o = (.inl (AI 0), (KS r d, h1, R))) ∨ (s.2.1.2.2.2 = 2 ∧ ¬ (0 ≤ s.2.1.2.2.1 ∧ s.2.1.2.2.1 ≤ 9) ∧ ∃ h1, PF h0 (2, s.2.1.1, s.1) h1 ∧ o = (.inl (AI 0), (KS r d, h1, R)))
    ∨ (s.2.1.2.2.2 = 2 ∧ (0 ≤ s.2.1.2.2.1 ∧ s.2.1.2.2.1 ≤ 9) ∧ ∃ h1, PX h0 b n s h1 ∧ h1 268 22 = s.2.1.2.2.1 ∧ o = (.inl (AI 1), (KS r d, h1, R)))) := by
  have k0 := @kd_268 r d
  have hP1 := hP
  obtain ⟨⟨a1, a2, a3⟩, ⟨a4, a5⟩, ⟨⟨a6, a7, a8, a9⟩, a10⟩, a13, a14, a15⟩ := hP
  refine w_aloadn f195_0 rfl (by omega) ?_
  refine w_getI f195_1 (by decide) (by assumption) (by (try simp only [hput, hcopy, Nat.reduceEqDiff, Nat.add_left_cancel_iff, Nat.add_right_cancel_iff, Nat.left_eq_add, Nat.add_eq_left, Nat.right_eq_add, Nat.add_eq_right, Nat.reduceAdd, Nat.add_zero, Nat.succ_ne_self, Nat.one_ne_zero, Nat.zero_ne_one, eq_self, and_self, and_true, true_and, and_false, false_and, if_true, if_false, reduceIte, Int.reduceToNat, Int.toNat_natCast, a8, a9]); exact rfl) ?_
  refine w_iconst (v := 2) f195_4 (by decide) ?_
  refine w_ic_eq (t := 14) f195_5 (by decide) (fun c1 => ?_) (fun c1 => ?_)
  · refine w_aloadn f195_14 rfl (by omega) ?_
    refine w_getI f195_15 (by decide) (by assumption) (by (try simp only [hput, hcopy, Nat.reduceEqDiff, Nat.add_left_cancel_iff, Nat.add_right_cancel_iff, Nat.left_eq_add, Nat.add_eq_left, Nat.right_eq_add, Nat.add_eq_right, Nat.reduceAdd, Nat.add_zero, Nat.succ_ne_self, Nat.one_ne_zero, Nat.zero_ne_one, eq_self, and_self, and_true, true_and, and_false, false_and, if_true, if_false, reduceIte, Int.reduceToNat, Int.toNat_natCast, a8, a9]); exact rfl) ?_
    refine w_iloadn f195_18 rfl ?_
    refine w_iloadn f195_19 rfl ?_
    refine w_cS f195_20 (Or.inl rfl) (Nat.le_of_ble_eq_true rfl) rfl rfl ⟨Nat.le_of_ble_eq_true rfl, rfl, Nat.le_of_ble_eq_true rfl⟩ (en148 _ _ _) (s148) (pv148 _ _) ?_
    refine w_ifb_ne (t := 32) f195_23 (by decide) (fun c2 => ?_) (fun c2 => ?_)
    · refine w_aloadn f195_32 rfl (by omega) ?_
      refine w_aloadn f195_33 rfl (by omega) ?_
      refine w_getI f195_34 (by decide) (by assumption) (by (try simp only [hput, hcopy, Nat.reduceEqDiff, Nat.add_left_cancel_iff, Nat.add_right_cancel_iff, Nat.left_eq_add, Nat.add_eq_left, Nat.right_eq_add, Nat.add_eq_right, Nat.reduceAdd, Nat.add_zero, Nat.succ_ne_self, Nat.one_ne_zero, Nat.zero_ne_one, eq_self, and_self, and_true, true_and, and_false, false_and, if_true, if_false, reduceIte, Int.reduceToNat, Int.toNat_natCast, a8, a9]); exact rfl) ?_
      refine w_putI f195_37 (by assumption) ?_
      refine w_iconst (v := 1) f195_40 (by decide) ?_
      refine w_zret f195_41 rfl (by decide) ?_
      exact Or.inr (Or.inr ⟨c1, c2, _, ⟨⟨(funext fun y => hput_k (by decide)).trans a1, (hput_j (by decide)).trans a2, a3⟩, ⟨(hput_j (by decide)).trans a4, (hput_j (by decide)).trans a5⟩, ⟨⟨(hput_j (by decide)).trans a6, (hput_j (by decide)).trans a7, (hput_j (by decide)).trans a8, (hput_j (by decide)).trans a9⟩, a10⟩, (funext fun y => hput_k (by decide)).trans a13, (funext fun y => hput_k (by decide)).trans a14, a15.put (by decide)⟩, hput_s, rfl⟩)
    · refine w_aloadn f195_26 rfl (by omega) ?_
      refine w_iconst (v := 2) f195_27 (by decide) ?_
      refine w_qV f195_28 (Or.inl rfl) rfl (by omega) (okd_of (by assumption)) rfl ⟨Nat.le_of_ble_eq_true rfl, rfl, Nat.le_of_ble_eq_true rfl⟩ (en193 _ _) (s193 hP1) (fun o9 ho9 => ?_)
      obtain ⟨h1, q1, rfl⟩ := ho9
      refine w_bok (pv193 _ _) ?_
      refine w_zret f195_31 rfl (by exact Or.inl rfl) ?_
      exact Or.inr (Or.inl ⟨c1, c2, h1, q1, rfl⟩)
  · refine w_aloadn f195_8 rfl (by omega) ?_
    refine w_iconst (v := 1) f195_9 (by decide) ?_
    refine w_qV f195_10 (Or.inl rfl) rfl (by omega) (okd_of (by assumption)) rfl ⟨Nat.le_of_ble_eq_true rfl, rfl, Nat.le_of_ble_eq_true rfl⟩ (en193 _ _) (s193 hP1) (fun o9 ho9 => ?_)
    obtain ⟨h1, q1, rfl⟩ := ho9
    refine w_bok (pv193 _ _) ?_
    refine w_zret f195_13 rfl (by exact Or.inl rfl) ?_
    exact Or.inl ⟨c1, h1, q1, rfl⟩
theorem s196 {h0 : Nat → Nat → Int} {s : PS} (hP : PX h0 b n s h) : Rn (ev 196 0 [AR 268, AI 0, AI 9] [] (KS r d, h, R)) (fun o => (s.2.1.2.2.2 ≠ 2 ∧ ∃ h1, PF h0 (1, s.2.1.1, s.1) h1 ∧ o = (.inl (AI 0), (KS r d, h1, R))) ∨ (s.2.1.2.2.2 = 2 ∧ ¬ (0 ≤ s.2.1.2.2.1 ∧ s.2.1.2.2.1 ≤ 9) ∧ ∃ h1, PF h0 (2, s.2.1.1, s.1) h1 ∧ o = (.inl (AI 0), (KS r d, h1, R)))
    ∨ (s.2.1.2.2.2 = 2 ∧ (0 ≤ s.2.1.2.2.1 ∧ s.2.1.2.2.1 ≤ 9) ∧ ∃ h1, PX h0 b n (adv b n s) h1 ∧ h1 268 22 = s.2.1.2.2.1 ∧ o = (.inl (AI 1), (KS r d, h1, R)))) := by
  have k0 := @kd_268 r d
  refine w_aloadn f196_0 rfl (by omega) ?_
  refine w_iloadn f196_1 rfl ?_
  refine w_iloadn f196_2 rfl ?_
  refine w_qV f196_3 (Or.inl rfl) rfl (by omega) (okd_of (by assumption)) rfl ⟨Nat.le_of_ble_eq_true rfl, rfl, Nat.le_of_ble_eq_true rfl⟩ (en195 _ _ _) (s195 hP) (fun o9 ho9 => ?_)
  rcases ho9 with ⟨z1, h1, q1, rfl⟩ | ⟨z1, z2, h1, q1, rfl⟩ | ⟨z1, z2, h1, q1, q2, rfl⟩
  · refine w_bok (pv195 _ _) ?_
    refine w_if_ne (t := 11) f196_6 (by decide) (fun c1 => absurd rfl c1) (fun c1 => ?_)
    refine w_iconst (v := 0) f196_9 (by decide) ?_
    refine w_zret f196_10 rfl (by decide) ?_
    exact Or.inl ⟨z1, h1, q1, rfl⟩
  · refine w_bok (pv195 _ _) ?_
    refine w_if_ne (t := 11) f196_6 (by decide) (fun c1 => absurd rfl c1) (fun c1 => ?_)
    refine w_iconst (v := 0) f196_9 (by decide) ?_
    refine w_zret f196_10 rfl (by decide) ?_
    exact Or.inr (Or.inl ⟨z1, z2, h1, q1, rfl⟩)
  · refine w_bok (pv195 _ _) ?_
    have hA := s192 q1.1.1 q1.1.2.1 q1.1.2.2 q1.2.2.1.1.2.1 ⟨by have := q1.2.2.1.2; unfold TR at this; omega, q1.2.2.1.2.2.2⟩ (r := r) (d := d) (R := R)
    refine w_if_ne (t := 11) f196_6 (by decide) (fun c1 => ?_) (fun c1 => absurd c1 (by decide))
    refine w_aloadn f196_11 rfl (by omega) ?_
    refine w_qV f196_12 (Or.inl rfl) rfl (by omega) (okd_of (by assumption)) rfl ⟨Nat.le_of_ble_eq_true rfl, rfl, Nat.le_of_ble_eq_true rfl⟩ (en192 _) (hA) (fun o9 ho9 => ?_)
    obtain ⟨h2, g1, g2, rfl⟩ := ho9
    refine w_bok (pv192 _ _) ?_
    refine w_iconst (v := 1) f196_15 (by decide) ?_
    refine w_zret f196_16 rfl (by decide) ?_
    refine Or.inr (Or.inr ⟨z1, z2, h2, ?_, (g1 268 22 (by omega)).trans q2, rfl⟩)
    obtain ⟨⟨a1, a2, a3⟩, ⟨a4, a5⟩, ⟨⟨a6, a7, a8, a9⟩, a10, a11, a12⟩, a13, a14, a15⟩ := q1
    exact ⟨⟨g1.b a1, g1.n a2, a3⟩, ⟨(g1 268 16 (by omega)).trans a4, (g1 268 17 (by omega)).trans a5⟩, ⟨g2, tok_r a3 ⟨by omega, a12⟩⟩, (funext fun y => g1 269 y (fun z => absurd z.1 (by decide))).trans a13, (funext fun y => g1 276 y (fun z => absurd z.1 (by decide))).trans a14, fun x y n1 n2 n3 => (g1 x y (fun z => n3 ⟨z.1, by omega, by omega⟩)).trans (a15 x y n1 n2 n3)⟩
theorem PX.putN {h0 : Nat → Nat → Int} {s : PS} {k : Int} {v : Int} (hP : PX h0 b n s h) : PX h0 b n (setN s k v) (hput h 276 k.toNat v) := by
  obtain ⟨⟨a1, a2, a3⟩, ⟨a4, a5⟩, ⟨⟨a6, a7, a8, a9⟩, a10⟩, a13, a14, a15⟩ := hP
  refine ⟨⟨(funext fun y => hput_k (by decide)).trans a1, (hput_k (by decide)).trans a2, a3⟩, ⟨(hput_k (by decide)).trans a4, (hput_k (by decide)).trans a5⟩, ⟨⟨(hput_k (by decide)).trans a6, (hput_k (by decide)).trans a7, (hput_k (by decide)).trans a8, (hput_k (by decide)).trans a9⟩, a10⟩, (funext fun y => hput_k (by decide)).trans a13, ?_, a15.putn (Or.inr rfl)⟩
  show hput h 276 k.toNat v 276 = udI s.2.2 k.toNat v
  rw [← a14]
  refine funext fun y => ?_
  unfold hput udI
  by_cases e : y = k.toNat
  · rw [if_pos ⟨rfl, e⟩, if_pos e]
  · rw [if_neg (fun z => e z.2), if_neg e]
theorem PX.putW {h0 : Nat → Nat → Int} {s : PS} {j : Nat} {v : Int} (hP : PX h0 b n s h) : PX h0 b n (udI s.1 j v, s.2.1, s.2.2) (hput h 269 j v) := by
  obtain ⟨⟨a1, a2, a3⟩, ⟨a4, a5⟩, ⟨⟨a6, a7, a8, a9⟩, a10⟩, a13, a14, a15⟩ := hP
  refine ⟨⟨(funext fun y => hput_k (by decide)).trans a1, (hput_k (by decide)).trans a2, a3⟩, ⟨(hput_k (by decide)).trans a4, (hput_k (by decide)).trans a5⟩, ⟨⟨(hput_k (by decide)).trans a6, (hput_k (by decide)).trans a7, (hput_k (by decide)).trans a8, (hput_k (by decide)).trans a9⟩, a10⟩, ?_, (funext fun y => hput_k (by decide)).trans a14, a15.putn (Or.inl rfl)⟩
  show hput h 269 j v 269 = udI s.1 j v
  rw [← a13]
  refine funext fun y => ?_
  unfold hput udI
  by_cases e : y = j
  · rw [if_pos ⟨rfl, e⟩, if_pos e]
  · rw [if_neg (fun z => e z.2), if_neg e]
theorem s201 {h0 : Nat → Nat → Int} {s : PS} {k : Int} (hP : PX h0 b n s h) (hk : 0 ≤ k ∧ k ≤ 8) : Rn (ev 201 0 [AR 268, AI k] [] (KS r d, h, R)) (PB r d R h0 b n (mNum b n k s)) := by
  have k0 := @kd_268 r d
  have k1 := @kd_276 r d
  refine w_aloadn f201_0 rfl (by omega) ?_
  refine w_iconst (v := 0) f201_1 (by decide) ?_
  refine w_bipush (v := 9) f201_2 (by decide) ?_
  refine w_qV f201_4 (Or.inl rfl) rfl (by omega) (okd_of (by assumption)) rfl ⟨Nat.le_of_ble_eq_true rfl, rfl, Nat.le_of_ble_eq_true rfl⟩ (en196 _ _ _) (s196 hP) (fun o9 ho9 => ?_)
  rcases ho9 with ⟨z1, h1, q1, rfl⟩ | ⟨z1, z2, h1, q1, rfl⟩ | ⟨z1, z2, h1, q1, q2, rfl⟩
  · refine w_bok (pv196 _ _) ?_
    refine w_if_ne (t := 12) f201_7 (by decide) (fun c1 => absurd rfl c1) (fun c1 => ?_)
    refine w_iconst (v := 0) f201_10 (by decide) ?_
    refine w_zret f201_11 rfl (by decide) ?_
    unfold mNum
    rw [if_pos z1]
    exact ⟨h1, q1, rfl⟩
  · refine w_bok (pv196 _ _) ?_
    refine w_if_ne (t := 12) f201_7 (by decide) (fun c1 => absurd rfl c1) (fun c1 => ?_)
    refine w_iconst (v := 0) f201_10 (by decide) ?_
    refine w_zret f201_11 rfl (by decide) ?_
    unfold mNum
    rw [if_neg (fun z => z z1), if_pos z2]
    exact ⟨h1, q1, rfl⟩
  · refine w_bok (pv196 _ _) ?_
    refine w_if_ne (t := 12) f201_7 (by decide) (fun c1 => ?_) (fun c1 => absurd c1 (by decide))
    refine w_aloadn f201_12 rfl (by omega) ?_
    refine w_getR f201_13 (by assumption) rfl (by omega) ?_
    refine w_iloadn f201_16 rfl ?_
    refine w_aloadn f201_17 rfl (by omega) ?_
    refine w_getI f201_18 (by decide) (by assumption) (by (try simp only [hput, hcopy, Nat.reduceEqDiff, Nat.add_left_cancel_iff, Nat.add_right_cancel_iff, Nat.left_eq_add, Nat.add_eq_left, Nat.right_eq_add, Nat.add_eq_right, Nat.reduceAdd, Nat.add_zero, Nat.succ_ne_self, Nat.one_ne_zero, Nat.zero_ne_one, eq_self, and_self, and_true, true_and, and_false, false_and, if_true, if_false, reduceIte, Int.reduceToNat, Int.toNat_natCast, q2]); exact rfl) ?_
    refine w_iast f201_21 (by assumption) (by omega) ?_
    refine w_iconst (v := 1) f201_22 (by decide) ?_
    refine w_zret f201_23 rfl (by decide) ?_
    unfold mNum
    rw [if_neg (fun z => z z1), if_neg (fun z => z z2)]
    exact ⟨_, q1.putN, rfl⟩
/-- the name at a cell is the token -/
def nmG (w : Nat → Int) (c : Int) (b : Nat → Int) (s : Int) : Nat → Int → Bool
  | 0, _ => true
  | f + 1, i => decide (w (c + 1 + i).toNat = b (s + i).toNat) && nmG w c b s f (i + 1)
def nmA (w : Nat → Int) (c : Int) (b : Nat → Int) (T : Tk) : Bool := decide (w c.toNat = T.2.1 - T.1) && nmG w c b T.1 (T.2.1 - T.1).toNat 0
theorem l199 {h0 : Nat → Nat → Int} {s : PS} {c : Int} (hP : PX h0 b n s h) (hc : 0 ≤ c ∧ c ≤ 497) (h6 : s.2.1.2.1 - s.2.1.1 ≤ 6) : ∀ (f : Nat) (i : Int), 0 ≤ i → i + f = s.2.1.2.1 - s.2.1.1 → ev 199 22 [AR 268, AI c, AI i] [] (KS r d, h, R) = some (.inl (AI (b2i (nmG s.1 c b s.2.1.1 f i = true))), (KS r d, h, R)) := by
  intro f
  have k0 := @kd_268 r d
  have k1 := @kd_269 r d
  have k2 := @kd_275 r d
  obtain ⟨⟨a1, a2, a3⟩, ⟨a4, a5⟩, ⟨⟨a6, a7, a8, a9⟩, a10, a11, a12⟩, a13, a14, a15⟩ := hP
  induction f with
  | zero =>
    intro i h1 h2
    refine Rn.eq ?_
    refine w_iloadn f199_22 rfl ?_
    refine w_aloadn f199_23 rfl (by omega) ?_
    refine w_getI f199_24 (by decide) (by assumption) (by (try simp only [hput, hcopy, Nat.reduceEqDiff, Nat.add_left_cancel_iff, Nat.add_right_cancel_iff, Nat.left_eq_add, Nat.add_eq_left, Nat.right_eq_add, Nat.add_eq_right, Nat.reduceAdd, Nat.add_zero, Nat.succ_ne_self, Nat.one_ne_zero, Nat.zero_ne_one, eq_self, and_self, and_true, true_and, and_false, false_and, if_true, if_false, reduceIte, Int.reduceToNat, Int.toNat_natCast, a6, a7]); exact rfl) ?_
    refine w_aloadn f199_27 rfl (by omega) ?_
    refine w_getI f199_28 (by decide) (by assumption) (by (try simp only [hput, hcopy, Nat.reduceEqDiff, Nat.add_left_cancel_iff, Nat.add_right_cancel_iff, Nat.left_eq_add, Nat.add_eq_left, Nat.right_eq_add, Nat.add_eq_right, Nat.reduceAdd, Nat.add_zero, Nat.succ_ne_self, Nat.one_ne_zero, Nat.zero_ne_one, eq_self, and_self, and_true, true_and, and_false, false_and, if_true, if_false, reduceIte, Int.reduceToNat, Int.toNat_natCast, a6, a7]); exact rfl) ?_
    refine w_isubn f199_31 (by omega) ?_
    refine w_ic_ge (t := 67) f199_32 (by decide) (fun c1 => ?_) (fun c1 => by omega)
    refine w_iconst (v := 1) f199_67 (by decide) ?_
    refine w_zret f199_68 rfl (by decide) ?_
    exact ob_t rfl
  | succ f ih =>
    intro i h1 h2
    refine Rn.eq ?_
    refine w_iloadn f199_22 rfl ?_
    refine w_aloadn f199_23 rfl (by omega) ?_
    refine w_getI f199_24 (by decide) (by assumption) (by (try simp only [hput, hcopy, Nat.reduceEqDiff, Nat.add_left_cancel_iff, Nat.add_right_cancel_iff, Nat.left_eq_add, Nat.add_eq_left, Nat.right_eq_add, Nat.add_eq_right, Nat.reduceAdd, Nat.add_zero, Nat.succ_ne_self, Nat.one_ne_zero, Nat.zero_ne_one, eq_self, and_self, and_true, true_and, and_false, false_and, if_true, if_false, reduceIte, Int.reduceToNat, Int.toNat_natCast, a6, a7, a1, a13]); exact rfl) ?_
    refine w_aloadn f199_27 rfl (by omega) ?_
    refine w_getI f199_28 (by decide) (by assumption) (by (try simp only [hput, hcopy, Nat.reduceEqDiff, Nat.add_left_cancel_iff, Nat.add_right_cancel_iff, Nat.left_eq_add, Nat.add_eq_left, Nat.right_eq_add, Nat.add_eq_right, Nat.reduceAdd, Nat.add_zero, Nat.succ_ne_self, Nat.one_ne_zero, Nat.zero_ne_one, eq_self, and_self, and_true, true_and, and_false, false_and, if_true, if_false, reduceIte, Int.reduceToNat, Int.toNat_natCast, a6, a7, a1, a13]); exact rfl) ?_
    refine w_isubn f199_31 (by omega) ?_
    refine w_ic_ge (t := 67) f199_32 (by decide) (fun c1 => by omega) (fun c1 => ?_)
    refine w_aloadn f199_35 rfl (by omega) ?_
    refine w_getR f199_36 (by assumption) rfl (by omega) ?_
    refine w_iloadn f199_39 rfl ?_
    refine w_iconst (v := 1) f199_40 (by decide) ?_
    refine w_iaddn f199_41 (by omega) ?_
    refine w_iloadn f199_42 rfl ?_
    refine w_iaddn f199_43 (by omega) ?_
    refine w_iald f199_44 (by assumption) (by omega) (by (try simp only [hput, hcopy, Nat.reduceEqDiff, Nat.add_left_cancel_iff, Nat.add_right_cancel_iff, Nat.left_eq_add, Nat.add_eq_left, Nat.right_eq_add, Nat.add_eq_right, Nat.reduceAdd, Nat.add_zero, Nat.succ_ne_self, Nat.one_ne_zero, Nat.zero_ne_one, eq_self, and_self, and_true, true_and, and_false, false_and, if_true, if_false, reduceIte, Int.reduceToNat, Int.toNat_natCast, a6, a7, a1, a13]); exact rfl) ?_
    refine w_aloadn f199_45 rfl (by omega) ?_
    refine w_getR f199_46 (by assumption) rfl (by omega) ?_
    refine w_aloadn f199_49 rfl (by omega) ?_
    refine w_getI f199_50 (by decide) (by assumption) (by (try simp only [hput, hcopy, Nat.reduceEqDiff, Nat.add_left_cancel_iff, Nat.add_right_cancel_iff, Nat.left_eq_add, Nat.add_eq_left, Nat.right_eq_add, Nat.add_eq_right, Nat.reduceAdd, Nat.add_zero, Nat.succ_ne_self, Nat.one_ne_zero, Nat.zero_ne_one, eq_self, and_self, and_true, true_and, and_false, false_and, if_true, if_false, reduceIte, Int.reduceToNat, Int.toNat_natCast, a6, a7, a1, a13]); exact rfl) ?_
    refine w_iloadn f199_53 rfl ?_
    refine w_iaddn f199_54 (by omega) ?_
    refine w_iald f199_55 (by assumption) (by omega) (by (try simp only [hput, hcopy, Nat.reduceEqDiff, Nat.add_left_cancel_iff, Nat.add_right_cancel_iff, Nat.left_eq_add, Nat.add_eq_left, Nat.right_eq_add, Nat.add_eq_right, Nat.reduceAdd, Nat.add_zero, Nat.succ_ne_self, Nat.one_ne_zero, Nat.zero_ne_one, eq_self, and_self, and_true, true_and, and_false, false_and, if_true, if_false, reduceIte, Int.reduceToNat, Int.toNat_natCast, a6, a7, a1, a13]); exact rfl) ?_
    refine w_ic_eq (t := 61) f199_56 (by decide) (fun c2 => ?_) (fun c2 => ?_)
    · refine w_iincn f199_61 rfl (by omega) (sto_3_2 rfl) ?_
      refine w_goto (t := 22) f199_64 (by decide) ?_
      refine Rn.to (ih _ (by omega) (by omega)) (ob_b ?_)
      simp only [nmG, Bool.and_eq_true, decide_eq_true_eq]
      exact ⟨fun z => ⟨c2, z⟩, fun z => z.2⟩
    · refine w_iconst (v := 0) f199_59 (by decide) ?_
      refine w_zret f199_60 rfl (by decide) ?_
      exact ob_f (fun z => by simp only [nmG, Bool.and_eq_true, decide_eq_true_eq] at z; exact absurd z.1 c2)
theorem s199 {h0 : Nat → Nat → Int} {s : PS} {c : Int} (hP : PX h0 b n s h) (hc : 0 ≤ c ∧ c ≤ 497) (h6 : s.2.1.2.1 - s.2.1.1 ≤ 6) : ev 199 0 [AR 268, AI c, AU] [] (KS r d, h, R) = some (.inl (AI (b2i (nmA s.1 c b s.2.1 = true))), (KS r d, h, R)) := by
  refine Rn.eq ?_
  have k0 := @kd_268 r d
  have k1 := @kd_269 r d
  have hP1 := hP
  obtain ⟨⟨a1, a2, a3⟩, ⟨a4, a5⟩, ⟨⟨a6, a7, a8, a9⟩, a10, a11, a12⟩, a13, a14, a15⟩ := hP
  refine w_aloadn f199_0 rfl (by omega) ?_
  refine w_getR f199_1 (by assumption) rfl (by omega) ?_
  refine w_iloadn f199_4 rfl ?_
  refine w_iald f199_5 (by assumption) (by omega) (by (try simp only [hput, hcopy, Nat.reduceEqDiff, Nat.add_left_cancel_iff, Nat.add_right_cancel_iff, Nat.left_eq_add, Nat.add_eq_left, Nat.right_eq_add, Nat.add_eq_right, Nat.reduceAdd, Nat.add_zero, Nat.succ_ne_self, Nat.one_ne_zero, Nat.zero_ne_one, eq_self, and_self, and_true, true_and, and_false, false_and, if_true, if_false, reduceIte, Int.reduceToNat, Int.toNat_natCast, a6, a7, a13]); exact rfl) ?_
  refine w_aloadn f199_6 rfl (by omega) ?_
  refine w_getI f199_7 (by decide) (by assumption) (by (try simp only [hput, hcopy, Nat.reduceEqDiff, Nat.add_left_cancel_iff, Nat.add_right_cancel_iff, Nat.left_eq_add, Nat.add_eq_left, Nat.right_eq_add, Nat.add_eq_right, Nat.reduceAdd, Nat.add_zero, Nat.succ_ne_self, Nat.one_ne_zero, Nat.zero_ne_one, eq_self, and_self, and_true, true_and, and_false, false_and, if_true, if_false, reduceIte, Int.reduceToNat, Int.toNat_natCast, a6, a7, a13]); exact rfl) ?_
  refine w_aloadn f199_10 rfl (by omega) ?_
  refine w_getI f199_11 (by decide) (by assumption) (by (try simp only [hput, hcopy, Nat.reduceEqDiff, Nat.add_left_cancel_iff, Nat.add_right_cancel_iff, Nat.left_eq_add, Nat.add_eq_left, Nat.right_eq_add, Nat.add_eq_right, Nat.reduceAdd, Nat.add_zero, Nat.succ_ne_self, Nat.one_ne_zero, Nat.zero_ne_one, eq_self, and_self, and_true, true_and, and_false, false_and, if_true, if_false, reduceIte, Int.reduceToNat, Int.toNat_natCast, a6, a7, a13]); exact rfl) ?_
  refine w_isubn f199_14 (by omega) ?_
  refine w_ic_eq (t := 20) f199_15 (by decide) (fun c1 => ?_) (fun c1 => ?_)
  · refine w_iconst (v := 0) f199_20 (by decide) ?_
    refine w_istoren f199_21 (Nat.le_of_ble_eq_true rfl) (sto_3_2 rfl) ?_
    refine Rn.to (l199 hP1 hc h6 (s.2.1.2.1 - s.2.1.1).toNat 0 (by omega) (by omega)) (ob_b ?_)
    simp only [nmA, Bool.and_eq_true, decide_eq_true_eq]
    exact ⟨fun z => ⟨c1, z⟩, fun z => z.2⟩
  · refine w_iconst (v := 0) f199_18 (by decide) ?_
    refine w_zret f199_19 rfl (by decide) ?_
    exact ob_f (fun z => by simp only [nmA, Bool.and_eq_true, decide_eq_true_eq] at z; omega)
def nhG (w : Nat → Int) (f : Int) (b : Nat → Int) (T : Tk) : Nat → Int → Int
  | 0, _ => -1
  | m + 1, k => if nmA w (f + 7 * k) b T = true then k else nhG w f b T m (k + 1)
def nhW (w : Nat → Int) (f c : Int) (b : Nat → Int) (T : Tk) : Int := nhG w f b T (w c.toNat).toNat 0
theorem nhG_r {f : Int} {T : Tk} : ∀ (m : Nat) (k : Int), 0 ≤ k → nhG w f b T m k = -1 ∨ (k ≤ nhG w f b T m k ∧ nhG w f b T m k < k + m)
  | 0, k, _ => Or.inl rfl
  | m + 1, k, h => by
    unfold nhG
    split
    · exact Or.inr ⟨Int.le_refl _, by omega⟩
    · rcases nhG_r (f := f) (T := T) m (k + 1) (by omega) with e | e
      · exact Or.inl e
      · exact Or.inr (by omega)
/-- where names lie: 357 0, 427 1, 483 2 -/
def NC (f c : Int) (m : Int) : Prop := (f = 357 ∧ c = 0 ∧ m = 10) ∨ (f = 427 ∧ c = 1 ∧ m = 8) ∨ (f = 483 ∧ c = 2 ∧ m = 3)
theorem l200 {h0 : Nat → Nat → Int} {s : PS} {f c m : Int} (hP : PX h0 b n s h) (hN : NC f c m) (hm : s.1 c.toNat ≤ m) (h6 : s.2.1.2.1 - s.2.1.1 ≤ 6) : ∀ (g : Nat) (k : Int), 0 ≤ k → k + g = s.1 c.toNat → ev 200 2 [AR 268, AI f, AI c, AI k] [] (KS r d, h, R) = some (.inl (AI (nhG s.1 f b s.2.1 g k)), (KS r d, h, R)) := by
  intro g
  have k0 := @kd_268 r d
  have k1 := @kd_269 r d
  have a13 := hP.2.2.2.1
  unfold NC at hN
  induction g with
  | zero =>
    intro k h1 h2
    refine Rn.eq ?_
    refine w_iloadn f200_2 rfl ?_
    refine w_aloadn f200_3 rfl (by omega) ?_
    refine w_getR f200_4 (by assumption) rfl (by omega) ?_
    refine w_iloadn f200_7 rfl ?_
    refine w_iald f200_8 (by assumption) (by omega) (by (try simp only [hput, hcopy, Nat.reduceEqDiff, Nat.add_left_cancel_iff, Nat.add_right_cancel_iff, Nat.left_eq_add, Nat.add_eq_left, Nat.right_eq_add, Nat.add_eq_right, Nat.reduceAdd, Nat.add_zero, Nat.succ_ne_self, Nat.one_ne_zero, Nat.zero_ne_one, eq_self, and_self, and_true, true_and, and_false, false_and, if_true, if_false, reduceIte, Int.reduceToNat, Int.toNat_natCast, a13]); exact rfl) ?_
    refine w_ic_ge (t := 33) f200_9 (by decide) (fun c1 => ?_) (fun c1 => by omega)
    refine w_iconst (v := -1) f200_33 (by decide) ?_
    refine w_iret f200_34 rfl ?_
    rfl
  | succ g ih =>
    intro k h1 h2
    refine Rn.eq ?_
    refine w_iloadn f200_2 rfl ?_
    refine w_aloadn f200_3 rfl (by omega) ?_
    refine w_getR f200_4 (by assumption) rfl (by omega) ?_
    refine w_iloadn f200_7 rfl ?_
    refine w_iald f200_8 (by assumption) (by omega) (by (try simp only [hput, hcopy, Nat.reduceEqDiff, Nat.add_left_cancel_iff, Nat.add_right_cancel_iff, Nat.left_eq_add, Nat.add_eq_left, Nat.right_eq_add, Nat.add_eq_right, Nat.reduceAdd, Nat.add_zero, Nat.succ_ne_self, Nat.one_ne_zero, Nat.zero_ne_one, eq_self, and_self, and_true, true_and, and_false, false_and, if_true, if_false, reduceIte, Int.reduceToNat, Int.toNat_natCast, a13]); exact rfl) ?_
    refine w_ic_ge (t := 33) f200_9 (by decide) (fun c1 => by omega) (fun c1 => ?_)
    refine w_aloadn f200_12 rfl (by omega) ?_
    refine w_iloadn f200_13 rfl ?_
    refine w_bipush (v := 7) f200_14 (by decide) ?_
    refine w_iloadn f200_16 rfl ?_
    refine w_imuln f200_17 (by omega) ?_
    refine w_iaddn f200_18 (by omega) ?_
    refine w_cV f200_19 (Or.inl rfl) rfl (by omega) (okd_of (by assumption)) rfl ⟨Nat.le_of_ble_eq_true rfl, rfl, Nat.le_of_ble_eq_true rfl⟩ (en199 _ _) (s199 hP (by omega) h6) (pv199 _ _) ?_
    refine w_ifb_eq (t := 27) f200_22 (by decide) (fun c2 => ?_) (fun c2 => ?_)
    · refine w_iincn f200_27 rfl (by omega) (sto_4_3 rfl) ?_
      refine w_goto (t := 2) f200_30 (by decide) ?_
      refine Rn.to (ih _ (by omega) (by omega)) ?_
      simp only [nhG]; rw [if_neg c2]
    · refine w_iloadn f200_25 rfl ?_
      refine w_iret f200_26 rfl ?_
      simp only [nhG]; rw [if_pos c2]
theorem s200 {h0 : Nat → Nat → Int} {s : PS} {f c m : Int} (hP : PX h0 b n s h) (hN : NC f c m) (hm : 0 ≤ s.1 c.toNat ∧ s.1 c.toNat ≤ m) (h6 : s.2.1.2.1 - s.2.1.1 ≤ 6) : ev 200 0 [AR 268, AI f, AI c, AU] [] (KS r d, h, R) = some (.inl (AI (nhW s.1 f c b s.2.1)), (KS r d, h, R)) := by
  refine Rn.eq ?_
  refine w_iconst (v := 0) f200_0 (by decide) ?_
  refine w_istoren f200_1 (Nat.le_of_ble_eq_true rfl) (sto_4_3 rfl) ?_
  exact Rn.to (l200 hP hN hm.2 h6 (s.1 c.toNat).toNat 0 (by omega) (by omega)) rfl
abbrev isN (T : Tk) : Prop := T.2.2.2 = 1 ∧ T.2.1 - T.1 ≤ 6
theorem s198 {h0 : Nat → Nat → Int} {s : PS} (hP : PX h0 b n s h) : Rn (ev 198 0 [AR 268] [] (KS r d, h, R)) (fun o => (¬ isN s.2.1 ∧ ∃ h1, PF h0 (1, s.2.1.1, s.1) h1 ∧ o = (.inl (AI 0), (KS r d, h1, R))) ∨ (isN s.2.1 ∧ o = (.inl (AI 1), (KS r d, h, R)))) := by
  have k0 := @kd_268 r d
  have hP1 := hP
  obtain ⟨⟨a1, a2, a3⟩, ⟨a4, a5⟩, ⟨⟨a6, a7, a8, a9⟩, a10, a11, a12⟩, a13, a14, a15⟩ := hP
  refine w_aloadn f198_0 rfl (by omega) ?_
  refine w_getI f198_1 (by decide) (by assumption) (by (try simp only [hput, hcopy, Nat.reduceEqDiff, Nat.add_left_cancel_iff, Nat.add_right_cancel_iff, Nat.left_eq_add, Nat.add_eq_left, Nat.right_eq_add, Nat.add_eq_right, Nat.reduceAdd, Nat.add_zero, Nat.succ_ne_self, Nat.one_ne_zero, Nat.zero_ne_one, eq_self, and_self, and_true, true_and, and_false, false_and, if_true, if_false, reduceIte, Int.reduceToNat, Int.toNat_natCast, a6, a7, a9]); exact rfl) ?_
  refine w_iconst (v := 1) f198_4 (by decide) ?_
  refine w_ic_ne (t := 22) f198_5 (by decide) (fun c1 => ?_) (fun c1 => ?_)
  · refine w_aloadn f198_22 rfl (by omega) ?_
    refine w_iconst (v := 1) f198_23 (by decide) ?_
    refine w_qV f198_24 (Or.inl rfl) rfl (by omega) (okd_of (by assumption)) rfl ⟨Nat.le_of_ble_eq_true rfl, rfl, Nat.le_of_ble_eq_true rfl⟩ (en193 _ _) (s193 hP1) (fun o9 ho9 => ?_)
    obtain ⟨h1, q1, rfl⟩ := ho9
    refine w_bok (pv193 _ _) ?_
    refine w_if_eq (t := 34) f198_27 (by decide) (fun c2 => ?_) (fun c2 => absurd rfl (by assumption))
    refine w_iconst (v := 0) f198_34 (by decide) ?_
    refine w_zret f198_35 rfl (by decide) ?_
    first | exact Or.inr ⟨⟨by omega, by omega⟩, rfl⟩ | exact Or.inl ⟨fun z => by unfold isN at z; omega, h1, q1, rfl⟩
  · refine w_aloadn f198_8 rfl (by omega) ?_
    refine w_getI f198_9 (by decide) (by assumption) (by (try simp only [hput, hcopy, Nat.reduceEqDiff, Nat.add_left_cancel_iff, Nat.add_right_cancel_iff, Nat.left_eq_add, Nat.add_eq_left, Nat.right_eq_add, Nat.add_eq_right, Nat.reduceAdd, Nat.add_zero, Nat.succ_ne_self, Nat.one_ne_zero, Nat.zero_ne_one, eq_self, and_self, and_true, true_and, and_false, false_and, if_true, if_false, reduceIte, Int.reduceToNat, Int.toNat_natCast, a6, a7, a9]); exact rfl) ?_
    refine w_aloadn f198_12 rfl (by omega) ?_
    refine w_getI f198_13 (by decide) (by assumption) (by (try simp only [hput, hcopy, Nat.reduceEqDiff, Nat.add_left_cancel_iff, Nat.add_right_cancel_iff, Nat.left_eq_add, Nat.add_eq_left, Nat.right_eq_add, Nat.add_eq_right, Nat.reduceAdd, Nat.add_zero, Nat.succ_ne_self, Nat.one_ne_zero, Nat.zero_ne_one, eq_self, and_self, and_true, true_and, and_false, false_and, if_true, if_false, reduceIte, Int.reduceToNat, Int.toNat_natCast, a6, a7, a9]); exact rfl) ?_
    refine w_isubn f198_16 (by omega) ?_
    refine w_bipush (v := 6) f198_17 (by decide) ?_
    refine w_ic_le (t := 30) f198_19 (by decide) (fun c3 => ?_) (fun c3 => ?_)
    · refine w_iconst (v := 1) f198_30 (by decide) ?_
      refine w_goto (t := 35) f198_31 (by decide) ?_
      refine w_zret f198_35 rfl (by decide) ?_
      first | exact Or.inr ⟨⟨by omega, by omega⟩, rfl⟩ | exact Or.inl ⟨fun z => by unfold isN at z; omega, h1, q1, rfl⟩
    · refine w_aloadn f198_22 rfl (by omega) ?_
      refine w_iconst (v := 1) f198_23 (by decide) ?_
      refine w_qV f198_24 (Or.inl rfl) rfl (by omega) (okd_of (by assumption)) rfl ⟨Nat.le_of_ble_eq_true rfl, rfl, Nat.le_of_ble_eq_true rfl⟩ (en193 _ _) (s193 hP1) (fun o9 ho9 => ?_)
      obtain ⟨h1, q1, rfl⟩ := ho9
      refine w_bok (pv193 _ _) ?_
      refine w_if_eq (t := 34) f198_27 (by decide) (fun c4 => ?_) (fun c4 => absurd rfl (by assumption))
      refine w_iconst (v := 0) f198_34 (by decide) ?_
      refine w_zret f198_35 rfl (by decide) ?_
      first | exact Or.inr ⟨⟨by omega, by omega⟩, rfl⟩ | exact Or.inl ⟨fun z => by unfold isN at z; omega, h1, q1, rfl⟩
def mKn (b : Nat → Int) (n : Int) (k f c : Int) (s : PS) : PM := if ¬ isN s.2.1 then err 1 s else if nhW s.1 f c b s.2.1 = -1 then err 4 s else .inr (adv b n (setN s k (nhW s.1 f c b s.2.1)))
theorem s202 {h0 : Nat → Nat → Int} {s : PS} {k f c m : Int} (hP : PX h0 b n s h) (hk : 0 ≤ k ∧ k ≤ 8) (hN : NC f c m) (hm : 0 ≤ s.1 c.toNat ∧ s.1 c.toNat ≤ m) : Rn (ev 202 0 [AR 268, AI k, AI f, AI c] [] (KS r d, h, R)) (PB r d R h0 b n (mKn b n k f c s)) := by
  have k0 := @kd_268 r d
  have k1 := @kd_276 r d
  refine w_aloadn f202_0 rfl (by omega) ?_
  refine w_qV f202_1 (Or.inl rfl) rfl (by omega) (okd_of (by assumption)) rfl ⟨Nat.le_of_ble_eq_true rfl, rfl, Nat.le_of_ble_eq_true rfl⟩ (en198 _) (s198 hP) (fun o9 ho9 => ?_)
  rcases ho9 with ⟨z1, h1, q1, rfl⟩ | ⟨z1, rfl⟩
  · refine w_bok (pv198 _ _) ?_
    refine w_if_ne (t := 9) f202_4 (by decide) (fun c1 => absurd rfl c1) (fun c1 => ?_)
    refine w_iconst (v := 0) f202_7 (by decide) ?_
    refine w_zret f202_8 rfl (by decide) ?_
    unfold mKn
    rw [if_pos z1]
    exact ⟨h1, q1, rfl⟩
  · refine w_bok (pv198 _ _) ?_
    have hP2 := hP.putN (k := k) (v := nhW s.1 f c b s.2.1)
    refine w_if_ne (t := 9) f202_4 (by decide) (fun c1 => ?_) (fun c1 => absurd c1 (by decide))
    refine w_aloadn f202_9 rfl (by omega) ?_
    refine w_getR f202_10 (by assumption) rfl (by omega) ?_
    refine w_iloadn f202_13 rfl ?_
    refine w_aloadn f202_14 rfl (by omega) ?_
    refine w_iloadn f202_15 rfl ?_
    refine w_iloadn f202_16 rfl ?_
    refine w_cV f202_17 (Or.inl rfl) rfl (by omega) (okd_of (by assumption)) rfl ⟨Nat.le_of_ble_eq_true rfl, rfl, Nat.le_of_ble_eq_true rfl⟩ (en200 _ _ _) (s200 hP hN hm z1.2) (pv200 _ _) ?_
    refine w_iast f202_20 (by assumption) (by omega) ?_
    refine w_aloadn f202_21 rfl (by omega) ?_
    refine w_getR f202_22 (by assumption) rfl (by omega) ?_
    refine w_iloadn f202_25 rfl ?_
    refine w_iald f202_26 (by assumption) (by omega) (by exact hput_s) ?_
    refine w_iconst (v := -1) f202_27 (by decide) ?_
    refine w_ic_ne (t := 37) f202_28 (by decide) (fun c2 => ?_) (fun c2 => ?_)
    · refine w_aloadn f202_37 rfl (by omega) ?_
      refine w_qV f202_38 (Or.inl rfl) rfl (by omega) (okd_of (by assumption)) rfl ⟨Nat.le_of_ble_eq_true rfl, rfl, Nat.le_of_ble_eq_true rfl⟩ (en192 _) (hP2.adv) (fun o9 ho9 => ?_)
      obtain ⟨h1, q1, rfl⟩ := ho9
      refine w_bok (pv192 _ _) ?_
      refine w_iconst (v := 1) f202_41 (by decide) ?_
      refine w_zret f202_42 rfl (by decide) ?_
      first | (unfold mKn; rw [if_neg (fun z => z z1), if_pos c2]; exact ⟨h1, q1, rfl⟩; done) | (unfold mKn; rw [if_neg (fun z => z z1), if_neg c2]; exact ⟨h1, q1, rfl⟩; done)
    · refine w_aloadn f202_31 rfl (by omega) ?_
      refine w_iconst (v := 4) f202_32 (by decide) ?_
      refine w_qV f202_33 (Or.inl rfl) rfl (by omega) (okd_of (by assumption)) rfl ⟨Nat.le_of_ble_eq_true rfl, rfl, Nat.le_of_ble_eq_true rfl⟩ (en193 _ _) (s193 hP2) (fun o9 ho9 => ?_)
      obtain ⟨h1, q1, rfl⟩ := ho9
      refine w_bok (pv193 _ _) ?_
      refine w_zret f202_36 rfl (by exact Or.inl rfl) ?_
      first | (unfold mKn; rw [if_neg (fun z => z z1), if_pos c2]; exact ⟨h1, q1, rfl⟩; done) | (unfold mKn; rw [if_neg (fun z => z z1), if_neg c2]; exact ⟨h1, q1, rfl⟩; done)
end A

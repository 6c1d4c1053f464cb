/-! the class's names -/
section A
variable {K : List AKd} {h : Nat → Nat → Int} {R : R4} {σ : Sg} {r d : Nat} {w : Nat → Int} {b : Nat → Int} {n : Int}
/-- the names k are those of w from cell f on, so many as cell c tells -/
def RNm1 (h : Nat → Nat → Int) (k : Nat) (w : Nat → Int) (f : Int) (i : Nat) : Prop := h (k + 12) i = w (f + 7 * i).toNat ∧ ∀ j : Nat, (j : Int) < w (f + 7 * i).toNat → h (k + 2 + i) j = w (f + 7 * i + 1 + j).toNat
def RNm (h : Nat → Nat → Int) (k : Nat) (w : Nat → Int) (f c : Int) : Prop := h k 2 = w c.toNat ∧ ∀ i : Nat, (i : Int) < w c.toNat → RNm1 h k w f i
theorem RNm.fr {k : Nat} {f c : Int} {h1 : Nat → Nat → Int} (q : RNm h k w f c) (hc : w c.toNat ≤ 10) (e : ∀ x y, k ≤ x → x < k + 13 → h1 x y = h x y) : RNm h1 k w f c :=
  ⟨(e _ _ (by omega) (by omega)).trans q.1, fun i hi => ⟨(e _ _ (by omega) (by omega)).trans (q.2 i hi).1, fun j hj => (e _ _ (by omega) (by omega)).trans ((q.2 i hi).2 j hj)⟩⟩
theorem RNm.ot {k a m : Nat} {f c : Int} {h1 : Nat → Nat → Int} (q : RNm h k w f c) (hc : w c.toNat ≤ 10) (e : Ot a m h h1) (hd : k + 13 ≤ a ∨ a + m ≤ k) : RNm h1 k w f c := q.fr hc (fun x y z1 z2 => e x y (by omega))
/-- where the names' cells agree -/
theorem RNm.ag {k : Nat} {f c : Int} {u : Nat → Int} (q : RNm h k w f c) (ec : u c.toNat = w c.toNat) (hl : ∀ i : Nat, (i : Int) < w c.toNat → w (f + 7 * i).toNat ≤ 6) (e : ∀ i : Nat, (i : Int) < w c.toNat → ∀ y : Nat, f + 7 * i ≤ y → y ≤ f + 7 * i + 6 → u y = w y) (hf : 0 ≤ f) : RNm h k u f c := by
  refine ⟨q.1.trans ec.symm, fun i hi => ?_⟩
  rw [ec] at hi
  have e0 : u (f + 7 * i).toNat = w (f + 7 * i).toNat := e i hi _ (by omega) (by omega)
  have l0 := hl i hi
  refine ⟨(q.2 i hi).1.trans e0.symm, fun j hj => ?_⟩
  rw [e0] at hj
  exact ((q.2 i hi).2 j hj).trans (e i hi _ (by omega) (by omega)).symm
theorem RNm.v {k : Nat} {f c i : Int} (q : RNm h k w f c) (hi : 0 ≤ i ∧ i < w c.toNat) : h (k + 12) i.toNat = w (f + 7 * i).toNat ∧ ∀ j : Int, 0 ≤ j → j < w (f + 7 * i).toNat → h (k + 2 + i.toNat) j.toNat = w (f + 7 * i + 1 + j).toNat := by
  have z := q.2 i.toNat (by omega)
  unfold RNm1 at z
  have e : ((i.toNat : Nat) : Int) = i := by omega
  rw [e] at z
  refine ⟨z.1, fun j j1 j2 => ?_⟩
  have z2 := z.2 j.toNat (by omega)
  have e2 : ((j.toNat : Nat) : Int) = j := by omega
  rw [e2] at z2
  exact z2
theorem rowNm {k : Nat} {i : Int} (hi : 0 ≤ i ∧ i < 10) : ([k + 2, k + 3, k + 4, k + 5, k + 6, k + 7, k + 8, k + 9, k + 10, k + 11] : List Nat).getD i.toNat 0 = k + 2 + i.toNat := by
  have : i = 0 ∨ i = 1 ∨ i = 2 ∨ i = 3 ∨ i = 4 ∨ i = 5 ∨ i = 6 ∨ i = 7 ∨ i = 8 ∨ i = 9 := by omega
  rcases this with rfl | rfl | rfl | rfl | rfl | rfl | rfl | rfl | rfl | rfl <;> rfl
theorem s43 {k : Nat} {f c i q : Int} (hk : ShNm (KS r d) k) (k0 : 0 < k) (hv : RNm h k w f c) (hc : w c.toNat ≤ 10) (hi : 0 ≤ i ∧ i < w c.toNat) (hl : 0 ≤ w (f + 7 * i).toNat ∧ w (f + 7 * i).toNat ≤ 6) : ev 43 0 [AR k, AI i, AI q] [] (KS r d, h, R) = some (.inl (AI (ltr w (f + 7 * i) q)), (KS r d, h, R)) := by
  refine Rn.eq ?_
  obtain ⟨k1, k2, k3, k4⟩ := hk
  have k5 := k3 i.toNat (by omega)
  obtain ⟨e1, e2⟩ := hv.v hi
  by_cases z : 0 ≤ q ∧ q < w (f + 7 * i).toNat
  · have e3 := e2 q z.1 z.2
    refine w_iloadn f43_0 rfl ?_
    refine w_if_lt (t := 14) f43_1 (by decide) (fun c1 => by omega) (fun c1 => ?_)
    refine w_iloadn f43_4 rfl ?_
    refine w_aloadn f43_5 rfl (by omega) ?_
    refine w_getR f43_6 (by assumption) rfl (by omega) ?_
    refine w_iloadn f43_9 rfl ?_
    refine w_iald f43_10 (by assumption) (by omega) (by (try simp only [hput, hcopy, Nat.reduceEqDiff, Nat.add_left_cancel_iff, Nat.add_right_cancel_iff, Nat.left_eq_add, Nat.add_eq_left, Nat.right_eq_add, Nat.add_eq_right, Nat.reduceAdd, Nat.add_zero, Nat.succ_ne_self, Nat.one_ne_zero, Nat.zero_ne_one, eq_self, and_self, and_true, true_and, and_false, false_and, if_true, if_false, reduceIte, Int.reduceToNat, Int.toNat_natCast, e1, e3]); exact rfl) ?_
    refine w_ic_lt (t := 18) f43_11 (by decide) (fun c2 => ?_) (fun c2 => by omega)
    refine w_aloadn f43_18 rfl (by omega) ?_
    refine w_getR f43_19 (by assumption) rfl (by omega) ?_
    refine w_iloadn f43_22 rfl ?_
    refine w_aald f43_23 (by assumption) (by decide) (by omega) (rowNm (by omega)) (by omega) ?_
    refine w_iloadn f43_24 rfl ?_
    refine w_iald f43_25 (by assumption) (by omega) (by (try simp only [hput, hcopy, Nat.reduceEqDiff, Nat.add_left_cancel_iff, Nat.add_right_cancel_iff, Nat.left_eq_add, Nat.add_eq_left, Nat.right_eq_add, Nat.add_eq_right, Nat.reduceAdd, Nat.add_zero, Nat.succ_ne_self, Nat.one_ne_zero, Nat.zero_ne_one, eq_self, and_self, and_true, true_and, and_false, false_and, if_true, if_false, reduceIte, Int.reduceToNat, Int.toNat_natCast, e1, e3]); exact rfl) ?_
    refine w_iret f43_26 rfl ?_
    unfold ltr; rw [if_pos z]
  · refine w_iloadn f43_0 rfl ?_
    refine w_if_lt (t := 14) f43_1 (by decide) (fun c1 => ?_) (fun c1 => ?_)
    · refine w_iconst (v := -1) f43_14 (by decide) ?_
      refine w_goto (t := 26) f43_15 (by decide) ?_
      refine w_iret f43_26 rfl ?_
      first | (exfalso; omega) | (unfold ltr; rw [if_neg z])
    · refine w_iloadn f43_4 rfl ?_
      refine w_aloadn f43_5 rfl (by omega) ?_
      refine w_getR f43_6 (by assumption) rfl (by omega) ?_
      refine w_iloadn f43_9 rfl ?_
      refine w_iald f43_10 (by assumption) (by omega) (by (try simp only [hput, hcopy, Nat.reduceEqDiff, Nat.add_left_cancel_iff, Nat.add_right_cancel_iff, Nat.left_eq_add, Nat.add_eq_left, Nat.right_eq_add, Nat.add_eq_right, Nat.reduceAdd, Nat.add_zero, Nat.succ_ne_self, Nat.one_ne_zero, Nat.zero_ne_one, eq_self, and_self, and_true, true_and, and_false, false_and, if_true, if_false, reduceIte, Int.reduceToNat, Int.toNat_natCast, e1]); exact rfl) ?_
      refine w_ic_lt (t := 18) f43_11 (by decide) (fun c2 => ?_) (fun c2 => ?_)
      · refine w_aloadn f43_18 rfl (by omega) ?_
        refine w_getR f43_19 (by assumption) rfl (by omega) ?_
        refine w_iloadn f43_22 rfl ?_
        refine w_aald f43_23 (by assumption) (by decide) (by omega) (rowNm (by omega)) (by omega) ?_
        refine w_iloadn f43_24 rfl ?_
        refine w_iald f43_25 (by assumption) (by omega) (by (try simp only [hput, hcopy, Nat.reduceEqDiff, Nat.add_left_cancel_iff, Nat.add_right_cancel_iff, Nat.left_eq_add, Nat.add_eq_left, Nat.right_eq_add, Nat.add_eq_right, Nat.reduceAdd, Nat.add_zero, Nat.succ_ne_self, Nat.one_ne_zero, Nat.zero_ne_one, eq_self, and_self, and_true, true_and, and_false, false_and, if_true, if_false, reduceIte, Int.reduceToNat, Int.toNat_natCast, e1]); exact rfl) ?_
        refine w_iret f43_26 rfl ?_
        first | (exfalso; omega) | (unfold ltr; rw [if_neg z])
      · refine w_iconst (v := -1) f43_14 (by decide) ?_
        refine w_goto (t := 26) f43_15 (by decide) ?_
        refine w_iret f43_26 rfl ?_
        first | (exfalso; omega) | (unfold ltr; rw [if_neg z])
theorem l46 {k : Nat} {f c i : Int} {T : Tk} (hk : ShNm (KS r d) k) (k0 : 0 < k) (hv : RNm h k w f c) (hc : w c.toNat ≤ 10) (hi : 0 ≤ i ∧ i < w c.toNat) (hP : PT h b n T) (h6 : T.2.1 - T.1 ≤ 6) (hl : w (f + 7 * i).toNat = T.2.1 - T.1) : ∀ (g : Nat) (j : Int), 0 ≤ j → j + g = T.2.1 - T.1 → ev 46 22 [AR k, AI i, AR 2, AI j] [] (KS r d, h, R) = some (.inl (AI (b2i (nmG w (f + 7 * i) b T.1 g j = true))), (KS r d, h, R)) := by
  intro g
  obtain ⟨k1, k2, k3, k4⟩ := hk
  have k5 := k3 i.toNat (by omega)
  have q1 := @kd_2 r d
  have q2 := @kd_3 r d
  obtain ⟨e1, e2⟩ := hv.v hi
  obtain ⟨⟨a1, a2, a3, -⟩, ⟨a4, a5, a6, -⟩, a10, a11, a12⟩ := hP
  induction g with
  | zero =>
    intro j h1 h2
    refine Rn.eq ?_
    refine w_iloadn f46_22 rfl ?_
    refine w_aloadn f46_23 rfl (by omega) ?_
    refine w_getR f46_24 (by assumption) rfl (by omega) ?_
    refine w_iloadn f46_27 rfl ?_
    refine w_iald f46_28 (by assumption) (by omega) (by (try simp only [hput, hcopy, Nat.reduceEqDiff, Nat.add_left_cancel_iff, Nat.add_right_cancel_iff, Nat.left_eq_add, Nat.add_eq_left, Nat.right_eq_add, Nat.add_eq_right, Nat.reduceAdd, Nat.add_zero, Nat.succ_ne_self, Nat.one_ne_zero, Nat.zero_ne_one, eq_self, and_self, and_true, true_and, and_false, false_and, if_true, if_false, reduceIte, Int.reduceToNat, Int.toNat_natCast, e1, hl]); exact rfl) ?_
    refine w_ic_ge (t := 62) f46_29 (by decide) (fun c1 => ?_) (fun c1 => by omega)
    refine w_iconst (v := 1) f46_62 (by decide) ?_
    refine w_zret f46_63 rfl (by decide) ?_
    exact ob_t rfl
  | succ g ih =>
    intro j h1 h2
    refine Rn.eq ?_
    have e3 := e2 j h1 (by omega)
    refine w_iloadn f46_22 rfl ?_
    refine w_aloadn f46_23 rfl (by omega) ?_
    refine w_getR f46_24 (by assumption) rfl (by omega) ?_
    refine w_iloadn f46_27 rfl ?_
    refine w_iald f46_28 (by assumption) (by omega) (by (try simp only [hput, hcopy, Nat.reduceEqDiff, Nat.add_left_cancel_iff, Nat.add_right_cancel_iff, Nat.left_eq_add, Nat.add_eq_left, Nat.right_eq_add, Nat.add_eq_right, Nat.reduceAdd, Nat.add_zero, Nat.succ_ne_self, Nat.one_ne_zero, Nat.zero_ne_one, eq_self, and_self, and_true, true_and, and_false, false_and, if_true, if_false, reduceIte, Int.reduceToNat, Int.toNat_natCast, e1, hl, e3, a1, a4]); exact rfl) ?_
    refine w_ic_ge (t := 62) f46_29 (by decide) (fun c1 => by omega) (fun c1 => ?_)
    refine w_aloadn f46_32 rfl (by omega) ?_
    refine w_getR f46_33 (by assumption) rfl (by omega) ?_
    refine w_iloadn f46_36 rfl ?_
    refine w_aald f46_37 (by assumption) (by decide) (by omega) (rowNm (by omega)) (by omega) ?_
    refine w_iloadn f46_38 rfl ?_
    refine w_iald f46_39 (by assumption) (by omega) (by (try simp only [hput, hcopy, Nat.reduceEqDiff, Nat.add_left_cancel_iff, Nat.add_right_cancel_iff, Nat.left_eq_add, Nat.add_eq_left, Nat.right_eq_add, Nat.add_eq_right, Nat.reduceAdd, Nat.add_zero, Nat.succ_ne_self, Nat.one_ne_zero, Nat.zero_ne_one, eq_self, and_self, and_true, true_and, and_false, false_and, if_true, if_false, reduceIte, Int.reduceToNat, Int.toNat_natCast, e1, hl, e3, a1, a4]); exact rfl) ?_
    refine w_aloadn f46_40 rfl (by omega) ?_
    refine w_getR f46_41 (by assumption) rfl (by omega) ?_
    refine w_aloadn f46_44 rfl (by omega) ?_
    refine w_getI f46_45 (by decide) (by assumption) (by (try simp only [hput, hcopy, Nat.reduceEqDiff, Nat.add_left_cancel_iff, Nat.add_right_cancel_iff, Nat.left_eq_add, Nat.add_eq_left, Nat.right_eq_add, Nat.add_eq_right, Nat.reduceAdd, Nat.add_zero, Nat.succ_ne_self, Nat.one_ne_zero, Nat.zero_ne_one, eq_self, and_self, and_true, true_and, and_false, false_and, if_true, if_false, reduceIte, Int.reduceToNat, Int.toNat_natCast, e1, hl, e3, a1, a4]); exact rfl) ?_
    refine w_iloadn f46_48 rfl ?_
    refine w_iaddn f46_49 (by omega) ?_
    refine w_iald f46_50 (by assumption) (by omega) (by (try simp only [hput, hcopy, Nat.reduceEqDiff, Nat.add_left_cancel_iff, Nat.add_right_cancel_iff, Nat.left_eq_add, Nat.add_eq_left, Nat.right_eq_add, Nat.add_eq_right, Nat.reduceAdd, Nat.add_zero, Nat.succ_ne_self, Nat.one_ne_zero, Nat.zero_ne_one, eq_self, and_self, and_true, true_and, and_false, false_and, if_true, if_false, reduceIte, Int.reduceToNat, Int.toNat_natCast, e1, hl, e3, a1, a4]); exact rfl) ?_
    refine w_ic_eq (t := 56) f46_51 (by decide) (fun c2 => ?_) (fun c2 => ?_)
    · refine w_iincn f46_56 rfl (by omega) (sto_4_3 rfl) ?_
      refine w_goto (t := 22) f46_59 (by decide) ?_
      refine Rn.to (ih _ (by omega) (by omega)) (ob_b ?_)
      simp only [nmG, Bool.and_eq_true, decide_eq_true_eq]
      exact ⟨fun z => ⟨by assumption, z⟩, fun z => z.2⟩
    · refine w_iconst (v := 0) f46_54 (by decide) ?_
      refine w_zret f46_55 rfl (by decide) ?_
      exact ob_f (fun z => by simp only [nmG, Bool.and_eq_true, decide_eq_true_eq] at z; exact absurd z.1 (by assumption))
theorem s46 {k : Nat} {f c i : Int} {T : Tk} (hk : ShNm (KS r d) k) (k0 : 0 < k) (hv : RNm h k w f c) (hc : w c.toNat ≤ 10) (hi : 0 ≤ i ∧ i < w c.toNat) (hP : PT h b n T) (h6 : T.2.1 - T.1 ≤ 6) : ev 46 0 [AR k, AI i, AR 2, AU] [] (KS r d, h, R) = some (.inl (AI (b2i (nmA w (f + 7 * i) b T = true))), (KS r d, h, R)) := by
  refine Rn.eq ?_
  have hk1 := hk
  have hP1 := hP
  obtain ⟨k1, k2, k3, k4⟩ := hk
  have q1 := @kd_2 r d
  obtain ⟨e1, e2⟩ := hv.v hi
  obtain ⟨⟨a1, a2, a3, -⟩, ⟨a4, a5, a6, -⟩, a10, a11, a12⟩ := hP
  refine w_aloadn f46_0 rfl (by omega) ?_
  refine w_getI f46_1 (by decide) (by assumption) (by (try simp only [hput, hcopy, Nat.reduceEqDiff, Nat.add_left_cancel_iff, Nat.add_right_cancel_iff, Nat.left_eq_add, Nat.add_eq_left, Nat.right_eq_add, Nat.add_eq_right, Nat.reduceAdd, Nat.add_zero, Nat.succ_ne_self, Nat.one_ne_zero, Nat.zero_ne_one, eq_self, and_self, and_true, true_and, and_false, false_and, if_true, if_false, reduceIte, Int.reduceToNat, Int.toNat_natCast, e1, a4, a5]); exact rfl) ?_
  refine w_aloadn f46_4 rfl (by omega) ?_
  refine w_getI f46_5 (by decide) (by assumption) (by (try simp only [hput, hcopy, Nat.reduceEqDiff, Nat.add_left_cancel_iff, Nat.add_right_cancel_iff, Nat.left_eq_add, Nat.add_eq_left, Nat.right_eq_add, Nat.add_eq_right, Nat.reduceAdd, Nat.add_zero, Nat.succ_ne_self, Nat.one_ne_zero, Nat.zero_ne_one, eq_self, and_self, and_true, true_and, and_false, false_and, if_true, if_false, reduceIte, Int.reduceToNat, Int.toNat_natCast, e1, a4, a5]); exact rfl) ?_
  refine w_isubn f46_8 (by omega) ?_
  refine w_aloadn f46_9 rfl (by omega) ?_
  refine w_getR f46_10 (by assumption) rfl (by omega) ?_
  refine w_iloadn f46_13 rfl ?_
  refine w_iald f46_14 (by assumption) (by omega) (by (try simp only [hput, hcopy, Nat.reduceEqDiff, Nat.add_left_cancel_iff, Nat.add_right_cancel_iff, Nat.left_eq_add, Nat.add_eq_left, Nat.right_eq_add, Nat.add_eq_right, Nat.reduceAdd, Nat.add_zero, Nat.succ_ne_self, Nat.one_ne_zero, Nat.zero_ne_one, eq_self, and_self, and_true, true_and, and_false, false_and, if_true, if_false, reduceIte, Int.reduceToNat, Int.toNat_natCast, e1, a4, a5]); exact rfl) ?_
  refine w_ic_eq (t := 20) f46_15 (by decide) (fun c1 => ?_) (fun c1 => ?_)
  · refine w_iconst (v := 0) f46_20 (by decide) ?_
    refine w_istoren f46_21 (Nat.le_of_ble_eq_true rfl) (sto_4_3 rfl) ?_
    refine Rn.to (l46 hk1 k0 hv hc hi hP1 h6 (by omega) (T.2.1 - T.1).toNat 0 (by omega) (by omega)) (ob_b ?_)
    simp only [nmA, Bool.and_eq_true, decide_eq_true_eq]
    exact ⟨fun z => ⟨by omega, z⟩, fun z => z.2⟩
  · refine w_iconst (v := 0) f46_18 (by decide) ?_
    refine w_zret f46_19 rfl (by decide) ?_
    exact ob_f (fun z => by simp only [nmA, Bool.and_eq_true, decide_eq_true_eq] at z; omega)
theorem l44 {k : Nat} {f c : Int} {T : Tk} (hk : ShNm (KS r d) k) (k0 : 0 < k) (hv : RNm h k w f c) (hc : w c.toNat ≤ 10) (hP : PT h b n T) (h6 : T.2.1 - T.1 ≤ 6) : ∀ (g : Nat) (i : Int), 0 ≤ i → i + g = w c.toNat → ev 44 2 [AR k, AR 2, AI i] [] (KS r d, h, R) = some (.inl (AI (nhG w f b T g i)), (KS r d, h, R)) := by
  intro g
  have k1 := hk.1
  have e0 := hv.1
  have q1 := @kd_2 r d
  induction g with
  | zero =>
    intro i h1 h2
    refine Rn.eq ?_
    refine w_iloadn f44_2 rfl ?_
    refine w_aloadn f44_3 rfl (by omega) ?_
    refine w_getI f44_4 (by decide) (by assumption) (by (try simp only [hput, hcopy, Nat.reduceEqDiff, Nat.add_left_cancel_iff, Nat.add_right_cancel_iff, Nat.left_eq_add, Nat.add_eq_left, Nat.right_eq_add, Nat.add_eq_right, Nat.reduceAdd, Nat.add_zero, Nat.succ_ne_self, Nat.one_ne_zero, Nat.zero_ne_one, eq_self, and_self, and_true, true_and, and_false, false_and, if_true, if_false, reduceIte, Int.reduceToNat, Int.toNat_natCast, e0]); exact rfl) ?_
    refine w_ic_ge (t := 27) f44_7 (by decide) (fun c1 => ?_) (fun c1 => by omega)
    refine w_iconst (v := -1) f44_27 (by decide) ?_
    refine w_iret f44_28 rfl ?_
    rfl
  | succ g ih =>
    intro i h1 h2
    refine Rn.eq ?_
    refine w_iloadn f44_2 rfl ?_
    refine w_aloadn f44_3 rfl (by omega) ?_
    refine w_getI f44_4 (by decide) (by assumption) (by (try simp only [hput, hcopy, Nat.reduceEqDiff, Nat.add_left_cancel_iff, Nat.add_right_cancel_iff, Nat.left_eq_add, Nat.add_eq_left, Nat.right_eq_add, Nat.add_eq_right, Nat.reduceAdd, Nat.add_zero, Nat.succ_ne_self, Nat.one_ne_zero, Nat.zero_ne_one, eq_self, and_self, and_true, true_and, and_false, false_and, if_true, if_false, reduceIte, Int.reduceToNat, Int.toNat_natCast, e0]); exact rfl) ?_
    refine w_ic_ge (t := 27) f44_7 (by decide) (fun c1 => by omega) (fun c1 => ?_)
    refine w_aloadn f44_10 rfl (by omega) ?_
    refine w_iloadn f44_11 rfl ?_
    refine w_aloadn f44_12 rfl (by omega) ?_
    refine w_cV f44_13 (Or.inl rfl) rfl (by omega) (okd_of (by assumption)) rfl ⟨Nat.le_of_ble_eq_true rfl, rfl, Nat.le_of_ble_eq_true rfl⟩ (en46 _ _ _) (s46 hk k0 hv hc ⟨by omega, by omega⟩ hP h6) (pv46 _ _) ?_
    refine w_ifb_eq (t := 21) f44_16 (by decide) (fun c2 => ?_) (fun c2 => ?_)
    · refine w_iincn f44_21 rfl (by omega) (sto_3_2 rfl) ?_
      refine w_goto (t := 2) f44_24 (by decide) ?_
      refine Rn.to (ih _ (by omega) (by omega)) ?_
      simp only [nhG, show ¬ nmA w (f + 7 * i) b T = true by assumption, if_false]; rfl
    · refine w_iloadn f44_19 rfl ?_
      refine w_iret f44_20 rfl ?_
      simp only [nhG, show nmA w (f + 7 * i) b T = true by assumption, if_true]
theorem s44 {k : Nat} {f c : Int} {T : Tk} (hk : ShNm (KS r d) k) (k0 : 0 < k) (hv : RNm h k w f c) (hc : 0 ≤ w c.toNat ∧ w c.toNat ≤ 10) (hP : PT h b n T) (h6 : T.2.1 - T.1 ≤ 6) : ev 44 0 [AR k, AR 2, AU] [] (KS r d, h, R) = some (.inl (AI (nhW w f c b T)), (KS r d, h, R)) := by
  refine Rn.eq ?_
  refine w_iconst (v := 0) f44_0 (by decide) ?_
  refine w_istoren f44_1 (Nat.le_of_ble_eq_true rfl) (sto_3_2 rfl) ?_
  exact Rn.to (l44 hk k0 hv hc.2 hP h6 (w c.toNat).toNat 0 (by omega) (by omega)) rfl
theorem s33 {k : Nat} {f c : Int} {T : Tk} (hk : ShNm (KS r d) k) (k0 : 0 < k) (hv : RNm h k w f c) (hc : 0 ≤ w c.toNat ∧ w c.toNat ≤ 10) (hP : PT h b n T) (h0 : h 2 6 = 0) : Rn (ev 33 0 [AR 2, AR k, AU] [] (KS r d, h, R)) (fun o => ((isN T ∧ nhW w f c b T ≠ -1) ∧ ∃ h1, (TcF h h1 ∧ PT h1 b n (tok b n T.2.1)) ∧ o = (.inl (AI (nhW w f c b T)), (KS r d, h1, R))) ∨ ((isN T ∧ nhW w f c b T = -1) ∧ o = (.inl (AI (-1)), (KS r d, fle h 4, R))) ∨ (¬ isN T ∧ o = (.inl (AI (-1)), (KS r d, fle h 1, R)))) := by
  have q1 := @kd_2 r d
  have k1 := hk.1
  by_cases z : isN T
  · have e : h 2 6 = 0 ∧ isN T := ⟨h0, z⟩
    have z31 := s31 (r := r) (d := d) (R := R) hP
    rw [if_pos e, b2i_t e] at z31
    refine w_aloadn f33_0 rfl (by omega) ?_
    refine w_cV f33_1 (Or.inl rfl) rfl (by omega) (okd_of (by assumption)) rfl ⟨Nat.le_of_ble_eq_true rfl, rfl, Nat.le_of_ble_eq_true rfl⟩ (en31 _) (z31) (pv31 _ _) ?_
    refine w_if_ne (t := 9) f33_4 (by decide) (fun c1 => ?_) (fun c1 => by omega)
    refine w_aloadn f33_9 rfl (by omega) ?_
    refine w_aloadn f33_10 rfl (by omega) ?_
    refine w_cV f33_11 (Or.inl rfl) rfl (by omega) (okd_of (by assumption)) rfl ⟨Nat.le_of_ble_eq_true rfl, rfl, Nat.le_of_ble_eq_true rfl⟩ (en44 _ _) (s44 hk k0 hv hc hP z.2) (pv44 _ _) ?_
    refine w_istoren f33_14 (Nat.le_of_ble_eq_true rfl) (sto_3_2 rfl) ?_
    refine w_iloadn f33_15 rfl ?_
    refine w_iconst (v := -1) f33_16 (by decide) ?_
    refine w_ic_ne (t := 28) f33_17 (by decide) (fun c2 => ?_) (fun c2 => ?_)
    · refine w_aloadn f33_28 rfl (by omega) ?_
      refine w_qV f33_29 (Or.inl rfl) rfl (by omega) (okd_of (by assumption)) rfl ⟨Nat.le_of_ble_eq_true rfl, rfl, Nat.le_of_ble_eq_true rfl⟩ (en25 _) (s25p hP) (fun o9 ho9 => ?_)
      obtain ⟨h1, q1, rfl⟩ := ho9
      refine w_bok (pv25 _ _) ?_
      refine w_iloadn f33_32 rfl ?_
      refine w_iret f33_33 rfl ?_
      first | exact Or.inl ⟨⟨z, by assumption⟩, h1, q1, rfl⟩ | (have e9 : nhW w f c b T = -1 := (by assumption); rw [e9]; exact Or.inr (Or.inl ⟨⟨z, rfl⟩, rfl⟩))
    · refine w_aloadn f33_20 rfl (by omega) ?_
      refine w_iconst (v := 4) f33_21 (by decide) ?_
      refine w_cV f33_22 (Or.inl rfl) rfl (by omega) (okd_of (by assumption)) rfl ⟨Nat.le_of_ble_eq_true rfl, rfl, Nat.le_of_ble_eq_true rfl⟩ (en24 _ _) (s24) (pv24 _ _) ?_
      refine w_goto (t := 32) f33_25 (by decide) ?_
      refine w_iloadn f33_32 rfl ?_
      refine w_iret f33_33 rfl ?_
      first | exact Or.inl ⟨⟨z, by assumption⟩, h1, q1, rfl⟩ | (have e9 : nhW w f c b T = -1 := (by assumption); rw [e9]; exact Or.inr (Or.inl ⟨⟨z, rfl⟩, rfl⟩))
  · have e : ¬ (h 2 6 = 0 ∧ isN T) := fun q => z q.2
    have z31 := s31 (r := r) (d := d) (R := R) hP
    rw [if_neg e, b2i_f e] at z31
    refine w_aloadn f33_0 rfl (by omega) ?_
    refine w_cV f33_1 (Or.inl rfl) rfl (by omega) (okd_of (by assumption)) rfl ⟨Nat.le_of_ble_eq_true rfl, rfl, Nat.le_of_ble_eq_true rfl⟩ (en31 _) (z31) (pv31 _ _) ?_
    refine w_if_ne (t := 9) f33_4 (by decide) (fun c1 => by omega) (fun c1 => ?_)
    refine w_iconst (v := -1) f33_7 (by decide) ?_
    refine w_iret f33_8 rfl ?_
    exact Or.inr (Or.inr ⟨z, rfl⟩)
theorem fle_n {c : Int} (h0 : h 2 6 ≠ 0) : fle h c = h := if_neg h0
theorem s33f {k : Nat} {T : Tk} (hP : PT h b n T) (h0 : h 2 6 ≠ 0) : ev 33 0 [AR 2, AR k, AU] [] (KS r d, h, R) = some (.inl (AI (-1)), (KS r d, h, R)) := by
  refine Rn.eq ?_
  have q1 := @kd_2 r d
  have e : ¬ (h 2 6 = 0 ∧ isN T) := fun q => h0 q.1
  have z31 := s31 (r := r) (d := d) (R := R) hP
  rw [if_neg e, b2i_f e, fle_n h0] at z31
  refine w_aloadn f33_0 rfl (by omega) ?_
  refine w_cV f33_1 (Or.inl rfl) rfl (by omega) (okd_of (by assumption)) rfl ⟨Nat.le_of_ble_eq_true rfl, rfl, Nat.le_of_ble_eq_true rfl⟩ (en31 _) (z31) (pv31 _ _) ?_
  refine w_if_ne (t := 9) f33_4 (by decide) (fun c1 => by omega) (fun c1 => ?_)
  refine w_iconst (v := -1) f33_7 (by decide) ?_
  refine w_iret f33_8 rfl ?_
  rfl
end A

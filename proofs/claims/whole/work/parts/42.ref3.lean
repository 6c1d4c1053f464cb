/-! the reference's choice and verdict -/
section A
variable {K : List AKd} {h : Nat → Nat → Int} {R : R4} {σ : Sg} {r d : Nat} {w : Nat → Int}
def chG (w : Nat → Int) (c e : Int) : Nat → Int → Int → Int × Int
  | 0, _, x => (x, -1)
  | n + 1, k, x => if tr w k 0 = c / 1000 ∧ tr w k 1 = e then (if gdB w k c = true then (1, k) else chG w c e n (k + 1) 1) else chG w c e n (k + 1) x
def ch (w : Nat → Int) (c e : Int) : Int × Int := chG w c e (w 3).toNat 0 0
theorem chG_r {w : Nat → Int} {c e : Int} : ∀ (n : Nat) (k x : Int), 0 ≤ k → (x = 0 ∨ x = 1) → ((chG w c e n k x).1 = 0 ∨ (chG w c e n k x).1 = 1) ∧ ((chG w c e n k x).1 = 0 → (chG w c e n k x).2 = -1) ∧ ((chG w c e n k x).2 = -1 ∨ (k ≤ (chG w c e n k x).2 ∧ (chG w c e n k x).2 < k + n ∧ tr w (chG w c e n k x).2 0 = c / 1000 ∧ tr w (chG w c e n k x).2 1 = e)) := by
  intro n
  induction n with
  | zero => intro k x hk hx; exact ⟨hx, fun _ => rfl, Or.inl rfl⟩
  | succ n ih =>
    intro k x hk hx
    simp only [chG]
    split
    · next q =>
      split
      · exact ⟨Or.inr rfl, fun e => absurd e (show ¬ (1 : Int) = 0 by decide), Or.inr ⟨Int.le_refl _, by show k < k + _; omega, q⟩⟩
      · obtain ⟨h1, h2, h3⟩ := ih (k + 1) 1 (by omega) (Or.inr rfl)
        exact ⟨h1, h2, h3.imp id (fun z => ⟨by omega, by omega, z.2.2⟩)⟩
    · obtain ⟨h1, h2, h3⟩ := ih (k + 1) x (by omega) hx
      exact ⟨h1, h2, h3.imp id (fun z => ⟨by omega, by omega, z.2.2⟩)⟩
theorem ch_r {w : Nat → Int} {c e : Int} (h3 : 0 ≤ w 3) : ((ch w c e).1 = 0 ∨ (ch w c e).1 = 1) ∧ ((ch w c e).1 = 0 → (ch w c e).2 = -1) ∧ ((ch w c e).2 = -1 ∨ (0 ≤ (ch w c e).2 ∧ (ch w c e).2 < w 3 ∧ tr w (ch w c e).2 0 = c / 1000 ∧ tr w (ch w c e).2 1 = e)) := by
  obtain ⟨a1, a2, a3⟩ := chG_r (w := w) (c := c) (e := e) (w 3).toNat 0 0 (by omega) (Or.inl rfl)
  exact ⟨a1, a2, a3.imp id (fun z => ⟨z.1, by have := z.2.1; unfold ch; omega, z.2.2⟩)⟩
theorem l174b {c e x k : Int} (hw : h 269 = w) (h7 : h 268 7 ≠ -1) (hx : x = 0 ∨ x = 1) : ev 174 10 [AR 268, AI c, AI e, AI x, AI k] [] (KS r d, h, R) = some (.inl (AI x), (KS r d, h, R)) := by
  refine Rn.eq ?_
  have k0 := @kd_268 r d
  have k1 := @kd_269 r d
  refine w_iload f174_10 rfl ?_
  refine w_aloadn f174_12 rfl (by omega) ?_
  refine w_getR f174_13 (by assumption) rfl (by omega) ?_
  refine w_iconst (v := 3) f174_16 (by decide) ?_
  refine w_iald f174_17 (by assumption) (by omega) (by (try simp only [hput, hcopy, Nat.reduceEqDiff, Nat.add_left_cancel_iff, Nat.add_right_cancel_iff, Nat.left_eq_add, Nat.add_eq_left, Nat.right_eq_add, Nat.add_eq_right, Nat.reduceAdd, Nat.add_zero, Nat.succ_ne_self, Nat.one_ne_zero, Nat.zero_ne_one, eq_self, and_self, and_true, true_and, and_false, false_and, if_true, if_false, reduceIte, Int.reduceToNat, Int.toNat_natCast, hw]); exact rfl) ?_
  refine w_ic_ge (t := 81) f174_18 (by decide) (fun c1 => ?_) (fun c1 => ?_)
  · refine w_iloadn f174_81 rfl ?_
    refine w_zret f174_82 rfl (by omega) ?_
    exact rfl
  · refine w_aloadn f174_21 rfl (by omega) ?_
    refine w_getI f174_22 (by decide) (by assumption) (by (try simp only [hput, hcopy, Nat.reduceEqDiff, Nat.add_left_cancel_iff, Nat.add_right_cancel_iff, Nat.left_eq_add, Nat.add_eq_left, Nat.right_eq_add, Nat.add_eq_right, Nat.reduceAdd, Nat.add_zero, Nat.succ_ne_self, Nat.one_ne_zero, Nat.zero_ne_one, eq_self, and_self, and_true, true_and, and_false, false_and, if_true, if_false, reduceIte, Int.reduceToNat, Int.toNat_natCast, hw]); exact rfl) ?_
    refine w_iconst (v := -1) f174_25 (by decide) ?_
    refine w_ic_ne (t := 81) f174_26 (by decide) (fun c2 => ?_) (fun c2 => absurd c2 h7)
    refine w_iloadn f174_81 rfl ?_
    refine w_zret f174_82 rfl (by omega) ?_
    exact rfl
theorem l174 {c e : Int} (hw : h 269 = w) (h1 : 0 ≤ c) (h3 : w 3 ≤ 24) (h7 : h 268 7 = -1) : ∀ (n : Nat) (k x : Int), 0 ≤ k → k + n = w 3 → (x = 0 ∨ x = 1) → ev 174 10 [AR 268, AI c, AI e, AI x, AI k] [] (KS r d, h, R) = some (.inl (AI (chG w c e n k x).1), (KS r d, hput h 268 7 (chG w c e n k x).2, R)) := by
  intro n
  have k0 := @kd_268 r d
  have k1 := @kd_269 r d
  induction n with
  | zero =>
    intro k x h2 h4 hx
    refine Rn.eq ?_
    refine w_iload f174_10 rfl ?_
    refine w_aloadn f174_12 rfl (by omega) ?_
    refine w_getR f174_13 (by assumption) rfl (by omega) ?_
    refine w_iconst (v := 3) f174_16 (by decide) ?_
    refine w_iald f174_17 (by assumption) (by omega) (by (try simp only [hput, hcopy, Nat.reduceEqDiff, Nat.add_left_cancel_iff, Nat.add_right_cancel_iff, Nat.left_eq_add, Nat.add_eq_left, Nat.right_eq_add, Nat.add_eq_right, Nat.reduceAdd, Nat.add_zero, Nat.succ_ne_self, Nat.one_ne_zero, Nat.zero_ne_one, eq_self, and_self, and_true, true_and, and_false, false_and, if_true, if_false, reduceIte, Int.reduceToNat, Int.toNat_natCast, hw]); exact rfl) ?_
    refine w_ic_ge (t := 81) f174_18 (by decide) (fun c1 => ?_) (fun c1 => by omega)
    refine w_iloadn f174_81 rfl ?_
    refine w_zret f174_82 rfl (by omega) ?_
    simp only [chG, hput_id h7]
  | succ n ih =>
    intro k x h2 h4 hx
    refine Rn.eq ?_
    have ho := hw
    subst hw
    refine w_iload f174_10 rfl ?_
    refine w_aloadn f174_12 rfl (by omega) ?_
    refine w_getR f174_13 (by assumption) rfl (by omega) ?_
    refine w_iconst (v := 3) f174_16 (by decide) ?_
    refine w_iald f174_17 (by assumption) (by omega) (by (try simp only [hput, hcopy, Nat.reduceEqDiff, Nat.add_left_cancel_iff, Nat.add_right_cancel_iff, Nat.left_eq_add, Nat.add_eq_left, Nat.right_eq_add, Nat.add_eq_right, Nat.reduceAdd, Nat.add_zero, Nat.succ_ne_self, Nat.one_ne_zero, Nat.zero_ne_one, eq_self, and_self, and_true, true_and, and_false, false_and, if_true, if_false, reduceIte, Int.reduceToNat, Int.toNat_natCast]); exact rfl) ?_
    refine w_ic_ge (t := 81) f174_18 (by decide) (fun c1 => by omega) (fun c1 => ?_)
    refine w_aloadn f174_21 rfl (by omega) ?_
    refine w_getI f174_22 (by decide) (by assumption) (by (try simp only [hput, hcopy, Nat.reduceEqDiff, Nat.add_left_cancel_iff, Nat.add_right_cancel_iff, Nat.left_eq_add, Nat.add_eq_left, Nat.right_eq_add, Nat.add_eq_right, Nat.reduceAdd, Nat.add_zero, Nat.succ_ne_self, Nat.one_ne_zero, Nat.zero_ne_one, eq_self, and_self, and_true, true_and, and_false, false_and, if_true, if_false, reduceIte, Int.reduceToNat, Int.toNat_natCast]); exact rfl) ?_
    refine w_iconst (v := -1) f174_25 (by decide) ?_
    refine w_ic_ne (t := 81) f174_26 (by decide) (fun c2 => absurd h7 c2) (fun c2 => ?_)
    refine w_aloadn f174_29 rfl (by omega) ?_
    refine w_iload f174_30 rfl ?_
    refine w_iconst (v := 0) f174_32 (by decide) ?_
    refine w_cV f174_33 (Or.inl rfl) rfl (by omega) (okd_of (by assumption)) rfl ⟨Nat.le_of_ble_eq_true rfl, rfl, Nat.le_of_ble_eq_true rfl⟩ (en154 _ _ _) (s154 (by omega) (by decide)) (pv154 _ _) ?_
    refine w_iloadn f174_36 rfl ?_
    refine w_cS f174_37 (Or.inl rfl) (Nat.le_of_ble_eq_true rfl) rfl rfl ⟨Nat.le_of_ble_eq_true rfl, rfl, Nat.le_of_ble_eq_true rfl⟩ (en164 _) (s164 (by omega)) (pv164 _ _) ?_
    refine w_ic_ne (t := 75) f174_40 (by decide) (fun c3 => ?_) (fun c3 => ?_)
    · refine w_iincn f174_75 rfl (by omega) (sto_5_4 rfl) ?_
      refine w_goto (t := 10) f174_78 (by decide) ?_
      first | (refine Rn.to (ih _ _ (by omega) (by omega) (by first | exact hx | exact Or.inr rfl)) ?_; simp [chG, *]; done) | (refine Rn.to (l174b (hput_w rfl (by decide)) (by simp [hput]; omega) (Or.inr rfl)) ?_; simp [chG, *]; done)
    · refine w_aloadn f174_43 rfl (by omega) ?_
      refine w_iload f174_44 rfl ?_
      refine w_iconst (v := 1) f174_46 (by decide) ?_
      refine w_cV f174_47 (Or.inl rfl) rfl (by omega) (okd_of (by assumption)) rfl ⟨Nat.le_of_ble_eq_true rfl, rfl, Nat.le_of_ble_eq_true rfl⟩ (en154 _ _ _) (s154 (by omega) (by decide)) (pv154 _ _) ?_
      refine w_iloadn f174_50 rfl ?_
      refine w_ic_eq (t := 57) f174_51 (by decide) (fun c4 => ?_) (fun c4 => ?_)
      · refine w_iconst (v := 1) f174_57 (by decide) ?_
        refine w_istoren f174_58 (Nat.le_of_ble_eq_true rfl) (sto_5_3 rfl) ?_
        refine w_aloadn f174_59 rfl (by omega) ?_
        refine w_iload f174_60 rfl ?_
        refine w_iloadn f174_62 rfl ?_
        refine w_cV f174_63 (Or.inl rfl) rfl (by omega) (okd_of (by assumption)) rfl ⟨Nat.le_of_ble_eq_true rfl, rfl, Nat.le_of_ble_eq_true rfl⟩ (en172 _ _ _) (s172 rfl (by omega) (by omega)) (pv172 _ _) ?_
        refine w_ifb_eq (t := 75) f174_66 (by decide) (fun c5 => ?_) (fun c5 => ?_)
        · refine w_iincn f174_75 rfl (by omega) (sto_5_4 rfl) ?_
          refine w_goto (t := 10) f174_78 (by decide) ?_
          first | (refine Rn.to (ih _ _ (by omega) (by omega) (by first | exact hx | exact Or.inr rfl)) ?_; simp [chG, *]; done) | (refine Rn.to (l174b (hput_w rfl (by decide)) (by simp [hput]; omega) (Or.inr rfl)) ?_; simp [chG, *]; done)
        · refine w_aloadn f174_69 rfl (by omega) ?_
          refine w_iload f174_70 rfl ?_
          refine w_putI f174_72 (by assumption) ?_
          refine w_iincn f174_75 rfl (by omega) (sto_5_4 rfl) ?_
          refine w_goto (t := 10) f174_78 (by decide) ?_
          first | (refine Rn.to (ih _ _ (by omega) (by omega) (by first | exact hx | exact Or.inr rfl)) ?_; simp [chG, *]; done) | (refine Rn.to (l174b (hput_w rfl (by decide)) (by simp [hput]; omega) (Or.inr rfl)) ?_; simp [chG, *]; done)
      · refine w_goto (t := 75) f174_54 (by decide) ?_
        refine w_iincn f174_75 rfl (by omega) (sto_5_4 rfl) ?_
        refine w_goto (t := 10) f174_78 (by decide) ?_
        first | (refine Rn.to (ih _ _ (by omega) (by omega) (by first | exact hx | exact Or.inr rfl)) ?_; simp [chG, *]; done) | (refine Rn.to (l174b (hput_w rfl (by decide)) (by simp [hput]; omega) (Or.inr rfl)) ?_; simp [chG, *]; done)
theorem s174 {c e : Int} (hw : h 269 = w) (h1 : 0 ≤ c) (h3 : 0 ≤ w 3 ∧ w 3 ≤ 24) : ev 174 0 [AR 268, AI c, AI e, AU, AU] [] (KS r d, h, R) = some (.inl (AI (ch w c e).1), (KS r d, hput h 268 7 (ch w c e).2, R)) := by
  refine Rn.eq ?_
  have k0 := @kd_268 r d
  refine w_iconst (v := 0) f174_0 (by decide) ?_
  refine w_istoren f174_1 (Nat.le_of_ble_eq_true rfl) (sto_5_3 rfl) ?_
  refine w_aloadn f174_2 rfl (by omega) ?_
  refine w_iconst (v := -1) f174_3 (by decide) ?_
  refine w_putI f174_4 (by assumption) ?_
  refine w_iconst (v := 0) f174_7 (by decide) ?_
  refine w_istore f174_8 (Nat.le_of_ble_eq_true rfl) (sto_5_4 rfl) ?_
  refine Rn.to (l174 (w := w) (hput_w hw (by decide)) h1 h3.2 hput_s (w 3).toNat _ _ (by omega) (by omega) (Or.inl rfl)) ?_
  rw [hput_ss]; rfl
end A

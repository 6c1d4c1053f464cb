/-! the reference's verdicts -/
section A
variable {K : List AKd} {h : Nat → Nat → Int} {R : R4} {σ : Sg} {r d : Nat} {w : Nat → Int}
def WFt (w : Nat → Int) : Prop := (0 ≤ w 3 ∧ w 3 ≤ 24) ∧ (0 ≤ w 4 ∧ w 4 ≤ 12) ∧ ∀ t, 0 ≤ t → t < w 3 → (0 ≤ tr w t 2 ∧ tr w t 2 ≤ 9) ∧ (tr w t 6 ≠ -1 → 0 ≤ tr w t 8 ∧ tr w t 8 ≤ 9)
theorem s169 {c i : Int} (hw : h 269 = w) (h1 : 0 ≤ c) (h2 : 0 ≤ i ∧ i < 12) : ev 169 0 [AR 268, AI i, AI c] [] (KS r d, h, R) = some (.inl (AI (b2i (cmpB (vIn c (iv w i 1)) (iv w i 2) (iv w i 3) = true))), (KS r d, h, R)) := by
  refine Rn.eq ?_
  subst hw
  have k0 := @kd_268 r d
  refine w_iloadn f169_0 rfl ?_
  refine w_aloadn f169_1 rfl (by omega) ?_
  refine w_iloadn f169_2 rfl ?_
  refine w_iconst (v := 1) f169_3 (by decide) ?_
  refine w_cV f169_4 (Or.inl rfl) rfl (by omega) (okd_of (by assumption)) rfl ⟨Nat.le_of_ble_eq_true rfl, rfl, Nat.le_of_ble_eq_true rfl⟩ (en155 _ _ _) (s155 (by omega) (by decide)) (pv155 _ _) ?_
  refine w_cS f169_7 (Or.inl rfl) (Nat.le_of_ble_eq_true rfl) rfl rfl ⟨Nat.le_of_ble_eq_true rfl, rfl, Nat.le_of_ble_eq_true rfl⟩ (en166 _ _) (s166 (by omega)) (pv166 _ _) ?_
  refine w_aloadn f169_10 rfl (by omega) ?_
  refine w_iloadn f169_11 rfl ?_
  refine w_iconst (v := 2) f169_12 (by decide) ?_
  refine w_cV f169_13 (Or.inl rfl) rfl (by omega) (okd_of (by assumption)) rfl ⟨Nat.le_of_ble_eq_true rfl, rfl, Nat.le_of_ble_eq_true rfl⟩ (en155 _ _ _) (s155 (by omega) (by decide)) (pv155 _ _) ?_
  refine w_aloadn f169_16 rfl (by omega) ?_
  refine w_iloadn f169_17 rfl ?_
  refine w_iconst (v := 3) f169_18 (by decide) ?_
  refine w_cV f169_19 (Or.inl rfl) rfl (by omega) (okd_of (by assumption)) rfl ⟨Nat.le_of_ble_eq_true rfl, rfl, Nat.le_of_ble_eq_true rfl⟩ (en155 _ _ _) (s155 (by omega) (by decide)) (pv155 _ _) ?_
  refine w_cS f169_22 (Or.inl rfl) (Nat.le_of_ble_eq_true rfl) rfl rfl ⟨Nat.le_of_ble_eq_true rfl, rfl, Nat.le_of_ble_eq_true rfl⟩ (en168 _ _ _) (s168) (pv168 _ _) ?_
  refine w_zret f169_25 rfl (b2i_01 _) ?_
  exact rfl
def brk (w : Nat → Int) (c i : Int) : Bool := (decide (iv w i 0 = -1) || decide (iv w i 0 = c / 1000)) && !cmpB (vIn c (iv w i 1)) (iv w i 2) (iv w i 3)
theorem s170 {c i : Int} (hw : h 269 = w) (h1 : 0 ≤ c) (h2 : 0 ≤ i ∧ i < 12) : ev 170 0 [AR 268, AI c, AI i, AU] [] (KS r d, h, R) = some (.inl (AI (b2i (brk w c i = true))), (KS r d, h, R)) := by
  refine Rn.eq ?_
  subst hw
  have k0 := @kd_268 r d
  refine w_aloadn f170_0 rfl (by omega) ?_
  refine w_iloadn f170_1 rfl ?_
  refine w_iconst (v := 0) f170_2 (by decide) ?_
  refine w_cV f170_3 (Or.inl rfl) rfl (by omega) (okd_of (by assumption)) rfl ⟨Nat.le_of_ble_eq_true rfl, rfl, Nat.le_of_ble_eq_true rfl⟩ (en155 _ _ _) (s155 (by omega) (by decide)) (pv155 _ _) ?_
  refine w_istoren f170_6 (Nat.le_of_ble_eq_true rfl) (sto_4_3 rfl) ?_
  refine w_iloadn f170_7 rfl ?_
  refine w_iconst (v := -1) f170_8 (by decide) ?_
  refine w_ic_eq (t := 20) f170_9 (by decide) (fun c1 => ?_) (fun c1 => ?_)
  · refine w_aloadn f170_20 rfl (by omega) ?_
    refine w_iloadn f170_21 rfl ?_
    refine w_iloadn f170_22 rfl ?_
    refine w_cV f170_23 (Or.inl rfl) rfl (by omega) (okd_of (by assumption)) rfl ⟨Nat.le_of_ble_eq_true rfl, rfl, Nat.le_of_ble_eq_true rfl⟩ (en169 _ _ _) (s169 rfl (by omega) (by omega)) (pv169 _ _) ?_
    refine w_ifb_ne (t := 33) f170_26 (by decide) (fun c2 => ?_) (fun c2 => ?_)
    · refine w_iconst (v := 0) f170_33 (by decide) ?_
      refine w_zret f170_34 rfl (by decide) ?_
      first | (refine ob_t ?_; unfold brk; simp [*]; done) | (refine ob_f ?_; unfold brk; simp [*]; done)
    · refine w_iconst (v := 1) f170_29 (by decide) ?_
      refine w_goto (t := 34) f170_30 (by decide) ?_
      refine w_zret f170_34 rfl (by decide) ?_
      first | (refine ob_t ?_; unfold brk; simp [*]; done) | (refine ob_f ?_; unfold brk; simp [*]; done)
  · refine w_iloadn f170_12 rfl ?_
    refine w_iloadn f170_13 rfl ?_
    refine w_cS f170_14 (Or.inl rfl) (Nat.le_of_ble_eq_true rfl) rfl rfl ⟨Nat.le_of_ble_eq_true rfl, rfl, Nat.le_of_ble_eq_true rfl⟩ (en164 _) (s164 (by omega)) (pv164 _ _) ?_
    refine w_ic_ne (t := 33) f170_17 (by decide) (fun c3 => ?_) (fun c3 => ?_)
    · refine w_iconst (v := 0) f170_33 (by decide) ?_
      refine w_zret f170_34 rfl (by decide) ?_
      first | (refine ob_t ?_; unfold brk; simp [*]; done) | (refine ob_f ?_; unfold brk; simp [*]; done)
    · refine w_aloadn f170_20 rfl (by omega) ?_
      refine w_iloadn f170_21 rfl ?_
      refine w_iloadn f170_22 rfl ?_
      refine w_cV f170_23 (Or.inl rfl) rfl (by omega) (okd_of (by assumption)) rfl ⟨Nat.le_of_ble_eq_true rfl, rfl, Nat.le_of_ble_eq_true rfl⟩ (en169 _ _ _) (s169 rfl (by omega) (by omega)) (pv169 _ _) ?_
      refine w_ifb_ne (t := 33) f170_26 (by decide) (fun c4 => ?_) (fun c4 => ?_)
      · refine w_iconst (v := 0) f170_33 (by decide) ?_
        refine w_zret f170_34 rfl (by decide) ?_
        first | (refine ob_t ?_; unfold brk; simp [*]; done) | (refine ob_f ?_; unfold brk; simp [*]; done)
      · refine w_iconst (v := 1) f170_29 (by decide) ?_
        refine w_goto (t := 34) f170_30 (by decide) ?_
        refine w_zret f170_34 rfl (by decide) ?_
        first | (refine ob_t ?_; unfold brk; simp [*]; done) | (refine ob_f ?_; unfold brk; simp [*]; done)
def fbG (w : Nat → Int) (c : Int) : Nat → Int → Int
  | 0, _ => -1
  | n + 1, i => if brk w c i = true then i else fbG w c n (i + 1)
def fb (w : Nat → Int) (c : Int) : Int := fbG w c (w 4).toNat 0
theorem l171 {c : Int} (hw : h 269 = w) (h1 : 0 ≤ c) (h4 : w 4 ≤ 12) : ∀ (n : Nat) (i : Int), 0 ≤ i → i + n = w 4 → ev 171 2 [AR 268, AI c, AI i] [] (KS r d, h, R) = some (.inl (AI (fbG w c n i)), (KS r d, h, R)) := by
  intro n
  have k0 := @kd_268 r d
  have k1 := @kd_269 r d
  induction n with
  | zero =>
    intro i h2 h3
    refine Rn.eq ?_
    refine w_iloadn f171_2 rfl ?_
    refine w_aloadn f171_3 rfl (by omega) ?_
    refine w_getR f171_4 (by assumption) rfl (by omega) ?_
    refine w_iconst (v := 4) f171_7 (by decide) ?_
    refine w_iald f171_8 (by assumption) (by omega) (by (try simp only [hput, hcopy, Nat.reduceEqDiff, Nat.add_left_cancel_iff, Nat.add_right_cancel_iff, Nat.left_eq_add, Nat.add_eq_left, Nat.right_eq_add, Nat.add_eq_right, Nat.reduceAdd, Nat.add_zero, Nat.succ_ne_self, Nat.one_ne_zero, Nat.zero_ne_one, eq_self, and_self, and_true, true_and, and_false, false_and, if_true, if_false, reduceIte, Int.reduceToNat, Int.toNat_natCast, hw]); exact rfl) ?_
    refine w_ic_ge (t := 29) f171_9 (by decide) (fun c1 => ?_) (fun c1 => by omega)
    refine w_iconst (v := -1) f171_29 (by decide) ?_
    refine w_iret f171_30 rfl ?_
    exact rfl
  | succ n ih =>
    intro i h2 h3
    refine Rn.eq ?_
    refine w_iloadn f171_2 rfl ?_
    refine w_aloadn f171_3 rfl (by omega) ?_
    refine w_getR f171_4 (by assumption) rfl (by omega) ?_
    refine w_iconst (v := 4) f171_7 (by decide) ?_
    refine w_iald f171_8 (by assumption) (by omega) (by (try simp only [hput, hcopy, Nat.reduceEqDiff, Nat.add_left_cancel_iff, Nat.add_right_cancel_iff, Nat.left_eq_add, Nat.add_eq_left, Nat.right_eq_add, Nat.add_eq_right, Nat.reduceAdd, Nat.add_zero, Nat.succ_ne_self, Nat.one_ne_zero, Nat.zero_ne_one, eq_self, and_self, and_true, true_and, and_false, false_and, if_true, if_false, reduceIte, Int.reduceToNat, Int.toNat_natCast, hw]); exact rfl) ?_
    refine w_ic_ge (t := 29) f171_9 (by decide) (fun c1 => by omega) (fun c1 => ?_)
    refine w_aloadn f171_12 rfl (by omega) ?_
    refine w_iloadn f171_13 rfl ?_
    refine w_iloadn f171_14 rfl ?_
    refine w_cV f171_15 (Or.inl rfl) rfl (by omega) (okd_of (by assumption)) rfl ⟨Nat.le_of_ble_eq_true rfl, rfl, Nat.le_of_ble_eq_true rfl⟩ (en170 _ _ _) (s170 hw (by omega) (by omega)) (pv170 _ _) ?_
    refine w_ifb_eq (t := 23) f171_18 (by decide) (fun c2 => ?_) (fun c2 => ?_)
    · refine w_iincn f171_23 rfl (by omega) (sto_3_2 rfl) ?_
      refine w_goto (t := 2) f171_26 (by decide) ?_
      refine Rn.to (ih _ (by omega) (by omega)) ?_
      simp only [fbG, c2, if_false]; try rfl
    · refine w_iloadn f171_21 rfl ?_
      refine w_iret f171_22 rfl ?_
      simp only [fbG, c2, if_true]
theorem s171 {c : Int} (hw : h 269 = w) (h1 : 0 ≤ c) (h4 : 0 ≤ w 4 ∧ w 4 ≤ 12) : ev 171 0 [AR 268, AI c, AU] [] (KS r d, h, R) = some (.inl (AI (fb w c)), (KS r d, h, R)) := by
  refine Rn.eq ?_
  refine w_iconst (v := 0) f171_0 (by decide) ?_
  refine w_istoren f171_1 (Nat.le_of_ble_eq_true rfl) (sto_3_2 rfl) ?_
  exact Rn.to (l171 hw h1 h4.2 _ _ (by omega) (by omega)) rfl
def gdB (w : Nat → Int) (t c : Int) : Bool := decide (tr w t 3 = -1) || cmpB (vIn c (tr w t 3)) (tr w t 4) (tr w t 5)
theorem s172 {c t : Int} (hw : h 269 = w) (h1 : 0 ≤ c) (h2 : 0 ≤ t ∧ t < 24) : ev 172 0 [AR 268, AI t, AI c, AU] [] (KS r d, h, R) = some (.inl (AI (b2i (gdB w t c = true))), (KS r d, h, R)) := by
  refine Rn.eq ?_
  subst hw
  have k0 := @kd_268 r d
  refine w_aloadn f172_0 rfl (by omega) ?_
  refine w_iloadn f172_1 rfl ?_
  refine w_iconst (v := 3) f172_2 (by decide) ?_
  refine w_cV f172_3 (Or.inl rfl) rfl (by omega) (okd_of (by assumption)) rfl ⟨Nat.le_of_ble_eq_true rfl, rfl, Nat.le_of_ble_eq_true rfl⟩ (en154 _ _ _) (s154 (by omega) (by decide)) (pv154 _ _) ?_
  refine w_istoren f172_6 (Nat.le_of_ble_eq_true rfl) (sto_4_3 rfl) ?_
  refine w_iloadn f172_7 rfl ?_
  refine w_iconst (v := -1) f172_8 (by decide) ?_
  refine w_ic_eq (t := 35) f172_9 (by decide) (fun c1 => ?_) (fun c1 => ?_)
  · refine w_iconst (v := 1) f172_35 (by decide) ?_
    refine w_goto (t := 40) f172_36 (by decide) ?_
    refine w_zret f172_40 rfl (by decide) ?_
    first | (refine ob_t ?_; unfold gdB; simp [*]; done) | (refine ob_f ?_; unfold gdB; simp [*]; done)
  · refine w_iloadn f172_12 rfl ?_
    refine w_iloadn f172_13 rfl ?_
    refine w_cS f172_14 (Or.inl rfl) (Nat.le_of_ble_eq_true rfl) rfl rfl ⟨Nat.le_of_ble_eq_true rfl, rfl, Nat.le_of_ble_eq_true rfl⟩ (en166 _ _) (s166 (by omega)) (pv166 _ _) ?_
    refine w_aloadn f172_17 rfl (by omega) ?_
    refine w_iloadn f172_18 rfl ?_
    refine w_iconst (v := 4) f172_19 (by decide) ?_
    refine w_cV f172_20 (Or.inl rfl) rfl (by omega) (okd_of (by assumption)) rfl ⟨Nat.le_of_ble_eq_true rfl, rfl, Nat.le_of_ble_eq_true rfl⟩ (en154 _ _ _) (s154 (by omega) (by decide)) (pv154 _ _) ?_
    refine w_aloadn f172_23 rfl (by omega) ?_
    refine w_iloadn f172_24 rfl ?_
    refine w_iconst (v := 5) f172_25 (by decide) ?_
    refine w_cV f172_26 (Or.inl rfl) rfl (by omega) (okd_of (by assumption)) rfl ⟨Nat.le_of_ble_eq_true rfl, rfl, Nat.le_of_ble_eq_true rfl⟩ (en154 _ _ _) (s154 (by omega) (by decide)) (pv154 _ _) ?_
    refine w_cS f172_29 (Or.inl rfl) (Nat.le_of_ble_eq_true rfl) rfl rfl ⟨Nat.le_of_ble_eq_true rfl, rfl, Nat.le_of_ble_eq_true rfl⟩ (en168 _ _ _) (s168) (pv168 _ _) ?_
    refine w_ifb_eq (t := 39) f172_32 (by decide) (fun c2 => ?_) (fun c2 => ?_)
    · refine w_iconst (v := 0) f172_39 (by decide) ?_
      refine w_zret f172_40 rfl (by decide) ?_
      first | (refine ob_t ?_; unfold gdB; simp [*]; done) | (refine ob_f ?_; unfold gdB; simp [*]; done)
    · refine w_iconst (v := 1) f172_35 (by decide) ?_
      refine w_goto (t := 40) f172_36 (by decide) ?_
      refine w_zret f172_40 rfl (by decide) ?_
      first | (refine ob_t ?_; unfold gdB; simp [*]; done) | (refine ob_f ?_; unfold gdB; simp [*]; done)
def actV (w : Nat → Int) (t v : Int) : Int := if tr w t 7 = 0 then v + tr w t 8 else if tr w t 7 = 1 then v - tr w t 8 else tr w t 8
theorem s173 {t v : Int} (hw : h 269 = w) (h1 : 0 ≤ v ∧ v ≤ 9) (h2 : 0 ≤ t ∧ t < 24) (h3 : 0 ≤ tr w t 8 ∧ tr w t 8 ≤ 9) : ev 173 0 [AR 268, AI t, AI v, AU] [] (KS r d, h, R) = some (.inl (AI (actV w t v)), (KS r d, h, R)) := by
  refine Rn.eq ?_
  subst hw
  have k0 := @kd_268 r d
  refine w_aloadn f173_0 rfl (by omega) ?_
  refine w_iloadn f173_1 rfl ?_
  refine w_bipush (v := 8) f173_2 (by decide) ?_
  refine w_cV f173_4 (Or.inl rfl) rfl (by omega) (okd_of (by assumption)) rfl ⟨Nat.le_of_ble_eq_true rfl, rfl, Nat.le_of_ble_eq_true rfl⟩ (en154 _ _ _) (s154 (by omega) (by decide)) (pv154 _ _) ?_
  refine w_istoren f173_7 (Nat.le_of_ble_eq_true rfl) (sto_4_3 rfl) ?_
  refine w_aloadn f173_8 rfl (by omega) ?_
  refine w_iloadn f173_9 rfl ?_
  refine w_bipush (v := 7) f173_10 (by decide) ?_
  refine w_cV f173_12 (Or.inl rfl) rfl (by omega) (okd_of (by assumption)) rfl ⟨Nat.le_of_ble_eq_true rfl, rfl, Nat.le_of_ble_eq_true rfl⟩ (en154 _ _ _) (s154 (by omega) (by decide)) (pv154 _ _) ?_
  rcases (show tr (h 269) t 7 = 0 ∨ tr (h 269) t 7 = 1 ∨ (tr (h 269) t 7 ≠ 0 ∧ tr (h 269) t 7 ≠ 1) by omega) with c1 | c1 | c1
  · refine w_look (off := 25) (t := 40) f173_15 rfl (by rw [c1]; first | done | rfl) (by decide) ?_
    refine w_iloadn f173_40 rfl ?_
    refine w_iloadn f173_41 rfl ?_
    refine w_iaddn f173_42 (by omega) ?_
    refine w_iret f173_43 rfl ?_
    unfold actV; simp [c1]
  · refine w_look (off := 29) (t := 44) f173_15 rfl (by rw [c1]; first | done | rfl) (by decide) ?_
    refine w_iloadn f173_44 rfl ?_
    refine w_iloadn f173_45 rfl ?_
    refine w_isubn f173_46 (by omega) ?_
    refine w_iret f173_47 rfl ?_
    unfold actV; simp [c1]
  · refine w_look (off := 33) (t := 48) f173_15 rfl (by simp [Op.lookupswitch.offset, Ne.symm c1.1, Ne.symm c1.2]) (by decide) ?_
    refine w_iloadn f173_48 rfl ?_
    refine w_iret f173_49 rfl ?_
    unfold actV; simp [c1]
end A

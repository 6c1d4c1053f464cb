/-! what the reference answers out of a search -/
section A
variable {K : List AKd} {h : Nat → Nat → Int} {R : R4} {σ : Sg} {r d : Nat} {w : Nat → Int}
theorem s232t {i j : Int} {nj : Nat} (hw : h 269 = w) (hn : j.toNat = nj) (hj : 0 ≤ j ∧ j ≤ 4) (hb : 0 ≤ w nj ∧ w nj ≤ 100) (hi : 0 ≤ i ∧ i < w nj) : ev 232 0 [AR 268, AI i, AI j] [] (KS r d, h, R) = some (.inl (AI 0), (KS r d, h, R)) := by
  refine Rn.eq ?_
  have k0 := @kd_268 r d
  have k1 := @kd_269 r d
  subst hn
  refine w_aloadn f232_0 rfl (by omega) ?_
  refine w_iloadn f232_1 rfl ?_
  refine w_iconst (v := 0) f232_2 (by decide) ?_
  refine w_aloadn f232_3 rfl (by omega) ?_
  refine w_getR f232_4 (by assumption) rfl (by omega) ?_
  refine w_iloadn f232_7 rfl ?_
  refine w_iald f232_8 (by assumption) (by omega) (by (try simp only [hput, hcopy, Nat.reduceEqDiff, Nat.add_left_cancel_iff, Nat.add_right_cancel_iff, Nat.left_eq_add, Nat.add_eq_left, Nat.right_eq_add, Nat.add_eq_right, Nat.reduceAdd, Nat.add_zero, Nat.succ_ne_self, Nat.one_ne_zero, Nat.zero_ne_one, eq_self, and_self, and_true, true_and, and_false, false_and, if_true, if_false, reduceIte, Int.reduceToNat, Int.toNat_natCast, hw]); exact rfl) ?_
  refine w_iconst (v := 1) f232_9 (by decide) ?_
  refine w_isubn f232_10 (by omega) ?_
  refine w_cS f232_11 (Or.inl rfl) (Nat.le_of_ble_eq_true rfl) rfl rfl ⟨Nat.le_of_ble_eq_true rfl, rfl, Nat.le_of_ble_eq_true rfl⟩ (en148 _ _ _) (s148) (pv148 _ _) ?_
  refine w_ifb_ne (t := 21) f232_14 (by decide) (fun c1 => ?_) (fun c1 => absurd hi (by omega))
  refine w_iconst (v := 0) f232_21 (by decide) ?_
  refine w_iconst (v := 1) f232_22 (by decide) ?_
  refine w_cV f232_23 (Or.inl rfl) rfl (by omega) (okd_of (by assumption)) rfl ⟨Nat.le_of_ble_eq_true rfl, rfl, Nat.le_of_ble_eq_true rfl⟩ (en150 _ _ _) (s150 (by decide)) (pv150 _ _) ?_
  refine w_zret f232_26 rfl (by omega) ?_
  rfl
theorem s232f {i j : Int} {nj : Nat} (hw : h 269 = w) (hn : j.toNat = nj) (hj : 0 ≤ j ∧ j ≤ 4) (hb : 0 ≤ w nj ∧ w nj ≤ 100) (hi : ¬ (0 ≤ i ∧ i < w nj)) : ev 232 0 [AR 268, AI i, AI j] [] (KS r d, h, R) = some (.inl (AI 1), (KS r d, hput h 268 6 1, R)) := by
  refine Rn.eq ?_
  have k0 := @kd_268 r d
  have k1 := @kd_269 r d
  subst hn
  refine w_aloadn f232_0 rfl (by omega) ?_
  refine w_iloadn f232_1 rfl ?_
  refine w_iconst (v := 0) f232_2 (by decide) ?_
  refine w_aloadn f232_3 rfl (by omega) ?_
  refine w_getR f232_4 (by assumption) rfl (by omega) ?_
  refine w_iloadn f232_7 rfl ?_
  refine w_iald f232_8 (by assumption) (by omega) (by (try simp only [hput, hcopy, Nat.reduceEqDiff, Nat.add_left_cancel_iff, Nat.add_right_cancel_iff, Nat.left_eq_add, Nat.add_eq_left, Nat.right_eq_add, Nat.add_eq_right, Nat.reduceAdd, Nat.add_zero, Nat.succ_ne_self, Nat.one_ne_zero, Nat.zero_ne_one, eq_self, and_self, and_true, true_and, and_false, false_and, if_true, if_false, reduceIte, Int.reduceToNat, Int.toNat_natCast, hw]); exact rfl) ?_
  refine w_iconst (v := 1) f232_9 (by decide) ?_
  refine w_isubn f232_10 (by omega) ?_
  refine w_cS f232_11 (Or.inl rfl) (Nat.le_of_ble_eq_true rfl) rfl rfl ⟨Nat.le_of_ble_eq_true rfl, rfl, Nat.le_of_ble_eq_true rfl⟩ (en148 _ _ _) (s148) (pv148 _ _) ?_
  refine w_ifb_ne (t := 21) f232_14 (by decide) (fun c1 => absurd c1 (by omega)) (fun c1 => ?_)
  refine w_iconst (v := 1) f232_17 (by decide) ?_
  refine w_goto (t := 22) f232_18 (by decide) ?_
  refine w_iconst (v := 1) f232_22 (by decide) ?_
  refine w_cV f232_23 (Or.inl rfl) rfl (by omega) (okd_of (by assumption)) rfl ⟨Nat.le_of_ble_eq_true rfl, rfl, Nat.le_of_ble_eq_true rfl⟩ (en150 _ _ _) (s150 (by decide)) (pv150 _ _) ?_
  refine w_zret f232_26 rfl (by omega) ?_
  rfl
def QR (r d : Nat) (R : R4) (h : Nat → Nat → Int) (t : Int) (v : AV) : Out → Prop := fun o => ∃ h1, Scr (hput h 268 6 t) h1 ∧ o = (.inl v, (KS r d, h1, R))
def stB (S : BS) (st : Int) : Nat → Int → Int
  | 0, _ => -1
  | n + 1, k => if S.2.1 k.toNat / 1000 = st then S.1 (S.2.1 k.toNat).toNat else stB S st n (k + 1)
def stp (w : Nat → Int) (c st : Int) : Int := stB (bfs w c) st (bfs w c).2.2.toNat 0
theorem l179 {S : BS} {a b c st : Int} (hB : BI S) : ∀ (n : Nat) (k : Int), 0 ≤ k → k + n = S.2.2 → ev 179 7 [AR 268, AI c, AI st, AI k] [] (KS r d, bH h S a b, R) = some (.inl (AI (stB S st n k)), (KS r d, bH h S a b, R)) := by
  intro n
  have k0 := @kd_268 r d
  have k1 := @kd_273 r d
  have k2 := @kd_274 r d
  have hn := hB.n
  have e2 : bH h S a b 268 11 = S.2.2 := rfl
  induction n with
  | zero =>
    intro k h1 h2
    refine Rn.eq ?_
    refine w_iloadn f179_7 rfl ?_
    refine w_aloadn f179_8 rfl (by omega) ?_
    refine w_getI f179_9 (by decide) (by assumption) (by (try simp only [hput, hcopy, Nat.reduceEqDiff, Nat.add_left_cancel_iff, Nat.add_right_cancel_iff, Nat.left_eq_add, Nat.add_eq_left, Nat.right_eq_add, Nat.add_eq_right, Nat.reduceAdd, Nat.add_zero, Nat.succ_ne_self, Nat.one_ne_zero, Nat.zero_ne_one, eq_self, and_self, and_true, true_and, and_false, false_and, if_true, if_false, reduceIte, Int.reduceToNat, Int.toNat_natCast, e2]); exact rfl) ?_
    refine w_ic_ge (t := 46) f179_12 (by decide) (fun c1 => ?_) (fun c1 => by omega)
    refine w_iconst (v := -1) f179_46 (by decide) ?_
    refine w_iret f179_47 rfl ?_
    exact rfl
  | succ n ih =>
    intro k h1 h2
    refine Rn.eq ?_
    have e3 : bH h S a b 274 k.toNat = S.2.1 k.toNat := bH_ln (by omega)
    have h9 := hB.2.2 k.toNat (by omega)
    have e4 : bH h S a b 273 (S.2.1 k.toNat).toNat = S.1 (S.2.1 k.toNat).toNat := bH_st (by omega)
    refine w_iloadn f179_7 rfl ?_
    refine w_aloadn f179_8 rfl (by omega) ?_
    refine w_getI f179_9 (by decide) (by assumption) (by (try simp only [hput, hcopy, Nat.reduceEqDiff, Nat.add_left_cancel_iff, Nat.add_right_cancel_iff, Nat.left_eq_add, Nat.add_eq_left, Nat.right_eq_add, Nat.add_eq_right, Nat.reduceAdd, Nat.add_zero, Nat.succ_ne_self, Nat.one_ne_zero, Nat.zero_ne_one, eq_self, and_self, and_true, true_and, and_false, false_and, if_true, if_false, reduceIte, Int.reduceToNat, Int.toNat_natCast, e2, e3, e4]); exact rfl) ?_
    refine w_ic_ge (t := 46) f179_12 (by decide) (fun c1 => by omega) (fun c1 => ?_)
    refine w_aloadn f179_15 rfl (by omega) ?_
    refine w_getR f179_16 (by assumption) rfl (by omega) ?_
    refine w_iloadn f179_19 rfl ?_
    refine w_iald f179_20 (by assumption) (by omega) (by (try simp only [hput, hcopy, Nat.reduceEqDiff, Nat.add_left_cancel_iff, Nat.add_right_cancel_iff, Nat.left_eq_add, Nat.add_eq_left, Nat.right_eq_add, Nat.add_eq_right, Nat.reduceAdd, Nat.add_zero, Nat.succ_ne_self, Nat.one_ne_zero, Nat.zero_ne_one, eq_self, and_self, and_true, true_and, and_false, false_and, if_true, if_false, reduceIte, Int.reduceToNat, Int.toNat_natCast, e2, e3, e4]); exact rfl) ?_
    refine w_cS f179_21 (Or.inl rfl) (Nat.le_of_ble_eq_true rfl) rfl rfl ⟨Nat.le_of_ble_eq_true rfl, rfl, Nat.le_of_ble_eq_true rfl⟩ (en164 _) (s164 h9.1) (pv164 _ _) ?_
    refine w_iloadn f179_24 rfl ?_
    refine w_ic_ne (t := 40) f179_25 (by decide) (fun c2 => ?_) (fun c2 => ?_)
    · refine w_iincn f179_40 rfl (by omega) (sto_4_3 rfl) ?_
      refine w_goto (t := 7) f179_43 (by decide) ?_
      refine Rn.to (ih _ (by omega) (by omega)) ?_
      simp only [stB, c2, if_false]
    · refine w_aloadn f179_28 rfl (by omega) ?_
      refine w_getR f179_29 (by assumption) rfl (by omega) ?_
      refine w_aloadn f179_32 rfl (by omega) ?_
      refine w_getR f179_33 (by assumption) rfl (by omega) ?_
      refine w_iloadn f179_36 rfl ?_
      refine w_iald f179_37 (by assumption) (by omega) (by (try simp only [hput, hcopy, Nat.reduceEqDiff, Nat.add_left_cancel_iff, Nat.add_right_cancel_iff, Nat.left_eq_add, Nat.add_eq_left, Nat.right_eq_add, Nat.add_eq_right, Nat.reduceAdd, Nat.add_zero, Nat.succ_ne_self, Nat.one_ne_zero, Nat.zero_ne_one, eq_self, and_self, and_true, true_and, and_false, false_and, if_true, if_false, reduceIte, Int.reduceToNat, Int.toNat_natCast, e2, e3, e4]); exact rfl) ?_
      refine w_iald f179_38 (by assumption) (by omega) (by (try simp only [hput, hcopy, Nat.reduceEqDiff, Nat.add_left_cancel_iff, Nat.add_right_cancel_iff, Nat.left_eq_add, Nat.add_eq_left, Nat.right_eq_add, Nat.add_eq_right, Nat.reduceAdd, Nat.add_zero, Nat.succ_ne_self, Nat.one_ne_zero, Nat.zero_ne_one, eq_self, and_self, and_true, true_and, and_false, false_and, if_true, if_false, reduceIte, Int.reduceToNat, Int.toNat_natCast, e2, e3, e4]); exact rfl) ?_
      refine w_iret f179_39 rfl ?_
      simp only [stB, c2, if_true]
theorem s179 (hw : h 269 = w) (hE : 0 ≤ w 1 ∧ w 1 ≤ 8) (hf : WFt w) {c st : Int} (h1 : 0 ≤ c ∧ c ≤ 9999) : Rn (ev 179 0 [AR 268, AI c, AI st, AU] [] (KS r d, h, R)) (fun o => ∃ h1, Scr h h1 ∧ o = (.inl (AI (stp w c st)), (KS r d, h1, R))) := by
  have k0 := @kd_268 r d
  have hB := (bfs_ok hf h1).1
  have hn := hB.n
  refine w_aloadn f179_0 rfl (by omega) ?_
  refine w_iloadn f179_1 rfl ?_
  refine w_qV f179_2 (Or.inl rfl) rfl (by omega) (okd_of (by assumption)) rfl ⟨Nat.le_of_ble_eq_true rfl, rfl, Nat.le_of_ble_eq_true rfl⟩ (en178 _ _) (s178 hw hE hf h1) (fun o9 ho9 => ?_)
  obtain ⟨a1, b1, rfl⟩ := ho9
  refine w_bok (pv178 _ _) ?_
  refine w_iconst (v := 0) f179_5 (by decide) ?_
  refine w_istoren f179_6 (Nat.le_of_ble_eq_true rfl) (sto_4_3 rfl) ?_
  refine Rn.to (l179 hB (bfs w c).2.2.toNat 0 (by omega) (by omega)) ?_
  exact ⟨_, bH_S, rfl⟩
theorem s261 (hw : h 269 = w) (hE : 0 ≤ w 1 ∧ w 1 ≤ 8) (hf : WFt w) (hc : WFc w) : Rn (ev 261 0 [AR 268] [] (KS r d, h, R)) (QR r d R h 0 (AI (bfs w (hereW w)).2.2)) := by
  have k0 := @kd_268 r d
  have h1 := hereW_r hc
  refine w_aloadn f261_0 rfl (by omega) ?_
  refine w_iconst (v := 0) f261_1 (by decide) ?_
  refine w_putI f261_2 (by assumption) ?_
  refine w_aloadn f261_5 rfl (by omega) ?_
  refine w_aloadn f261_6 rfl (by omega) ?_
  refine w_cV f261_7 (Or.inl rfl) rfl (by omega) (okd_of (by assumption)) rfl ⟨Nat.le_of_ble_eq_true rfl, rfl, Nat.le_of_ble_eq_true rfl⟩ (en162 _) (s162 (w := w) (by repeat (first | exact hw | refine setv_w ?_ (by decide) | refine hput_w ?_ (by decide))) hc) (pv162 _ _) ?_
  refine w_qV f261_10 (Or.inl rfl) rfl (by omega) (okd_of (by assumption)) rfl ⟨Nat.le_of_ble_eq_true rfl, rfl, Nat.le_of_ble_eq_true rfl⟩ (en178 _ _) (s178 (w := w) (by repeat (first | exact hw | refine setv_w ?_ (by decide) | refine hput_w ?_ (by decide))) hE hf h1) (fun o9 ho9 => ?_)
  obtain ⟨a1, b1, rfl⟩ := ho9
  refine w_bok (pv178 _ _) ?_
  refine w_aloadn f261_13 rfl (by omega) ?_
  refine w_getI f261_14 (by decide) (by assumption) (by (try simp only [hput, hcopy, Nat.reduceEqDiff, Nat.add_left_cancel_iff, Nat.add_right_cancel_iff, Nat.left_eq_add, Nat.add_eq_left, Nat.right_eq_add, Nat.add_eq_right, Nat.reduceAdd, Nat.add_zero, Nat.succ_ne_self, Nat.one_ne_zero, Nat.zero_ne_one, eq_self, and_self, and_true, true_and, and_false, false_and, if_true, if_false, reduceIte, Int.reduceToNat, Int.toNat_natCast, bH_n]); exact rfl) ?_
  refine w_iret f261_17 rfl ?_
  exact ⟨_, bH_S, rfl⟩
theorem s262 {st : Int} (hw : h 269 = w) (hE : 0 ≤ w 1 ∧ w 1 ≤ 8) (hf : WFt w) (hc : WFc w) (h0 : 0 ≤ w 0 ∧ w 0 ≤ 10) (hs : 0 ≤ st ∧ st < w 0) : Rn (ev 262 0 [AR 268, AI st] [] (KS r d, h, R)) (QR r d R h 0 (AI (b2i (stp w (hereW w) st ≠ -1)))) := by
  have k0 := @kd_268 r d
  have h1 := hereW_r hc
  refine w_aloadn f262_0 rfl (by omega) ?_
  refine w_iconst (v := 0) f262_1 (by decide) ?_
  refine w_putI f262_2 (by assumption) ?_
  refine w_aloadn f262_5 rfl (by omega) ?_
  refine w_iloadn f262_6 rfl ?_
  refine w_iconst (v := 0) f262_7 (by decide) ?_
  refine w_cV f262_8 (Or.inl rfl) rfl (by omega) (okd_of (by assumption)) rfl ⟨Nat.le_of_ble_eq_true rfl, rfl, Nat.le_of_ble_eq_true rfl⟩ (en232 _ _ _) (s232t (w := w) (nj := 0) (by repeat (first | exact hw | refine setv_w ?_ (by decide) | refine hput_w ?_ (by decide))) rfl (by decide) (by omega) hs) (pv232 _ _) ?_
  refine w_if_ne (t := 31) f262_11 (by decide) (fun c1 => by omega) (fun c1 => ?_)
  refine w_aloadn f262_14 rfl (by omega) ?_
  refine w_aloadn f262_15 rfl (by omega) ?_
  refine w_cV f262_16 (Or.inl rfl) rfl (by omega) (okd_of (by assumption)) rfl ⟨Nat.le_of_ble_eq_true rfl, rfl, Nat.le_of_ble_eq_true rfl⟩ (en162 _) (s162 (w := w) (by repeat (first | exact hw | refine setv_w ?_ (by decide) | refine hput_w ?_ (by decide))) hc) (pv162 _ _) ?_
  refine w_iloadn f262_19 rfl ?_
  refine w_qV f262_20 (Or.inl rfl) rfl (by omega) (okd_of (by assumption)) rfl ⟨Nat.le_of_ble_eq_true rfl, rfl, Nat.le_of_ble_eq_true rfl⟩ (en179 _ _ _) (s179 (w := w) (by repeat (first | exact hw | refine setv_w ?_ (by decide) | refine hput_w ?_ (by decide))) hE hf h1) (fun o9 ho9 => ?_)
  obtain ⟨h2, q2, rfl⟩ := ho9
  refine w_bok (pv179 _ _) ?_
  refine w_iconst (v := -1) f262_23 (by decide) ?_
  refine w_ic_eq (t := 31) f262_24 (by decide) (fun c2 => ?_) (fun c2 => ?_)
  · refine w_iconst (v := 0) f262_31 (by decide) ?_
    refine w_zret f262_32 rfl (by decide) ?_
    first | exact ⟨_, q2, ob_t c2⟩ | exact ⟨_, q2, ob_f (fun z => z c2)⟩
  · refine w_iconst (v := 1) f262_27 (by decide) ?_
    refine w_goto (t := 32) f262_28 (by decide) ?_
    refine w_zret f262_32 rfl (by decide) ?_
    first | exact ⟨_, q2, ob_t c2⟩ | exact ⟨_, q2, ob_f (fun z => z c2)⟩
theorem s264 {st : Int} (hw : h 269 = w) (hE : 0 ≤ w 1 ∧ w 1 ≤ 8) (hf : WFt w) (hc : WFc w) (h0 : 0 ≤ w 0 ∧ w 0 ≤ 10) (hs : 0 ≤ st ∧ st < w 0) : Rn (ev 264 0 [AR 268, AI st] [] (KS r d, h, R)) (QR r d R h 0 (AI (stp w (hereW w) st))) := by
  have k0 := @kd_268 r d
  have h1 := hereW_r hc
  refine w_aloadn f264_0 rfl (by omega) ?_
  refine w_iconst (v := 0) f264_1 (by decide) ?_
  refine w_putI f264_2 (by assumption) ?_
  refine w_aloadn f264_5 rfl (by omega) ?_
  refine w_iloadn f264_6 rfl ?_
  refine w_iconst (v := 0) f264_7 (by decide) ?_
  refine w_cV f264_8 (Or.inl rfl) rfl (by omega) (okd_of (by assumption)) rfl ⟨Nat.le_of_ble_eq_true rfl, rfl, Nat.le_of_ble_eq_true rfl⟩ (en232 _ _ _) (s232t (w := w) (nj := 0) (by repeat (first | exact hw | refine setv_w ?_ (by decide) | refine hput_w ?_ (by decide))) rfl (by decide) (by omega) hs) (pv232 _ _) ?_
  refine w_if_eq (t := 18) f264_11 (by decide) (fun c1 => ?_) (fun c1 => by omega)
  refine w_aloadn f264_18 rfl (by omega) ?_
  refine w_aloadn f264_19 rfl (by omega) ?_
  refine w_cV f264_20 (Or.inl rfl) rfl (by omega) (okd_of (by assumption)) rfl ⟨Nat.le_of_ble_eq_true rfl, rfl, Nat.le_of_ble_eq_true rfl⟩ (en162 _) (s162 (w := w) (by repeat (first | exact hw | refine setv_w ?_ (by decide) | refine hput_w ?_ (by decide))) hc) (pv162 _ _) ?_
  refine w_iloadn f264_23 rfl ?_
  refine w_qV f264_24 (Or.inl rfl) rfl (by omega) (okd_of (by assumption)) rfl ⟨Nat.le_of_ble_eq_true rfl, rfl, Nat.le_of_ble_eq_true rfl⟩ (en179 _ _ _) (s179 (w := w) (by repeat (first | exact hw | refine setv_w ?_ (by decide) | refine hput_w ?_ (by decide))) hE hf h1) (fun o9 ho9 => ?_)
  obtain ⟨h2, q2, rfl⟩ := ho9
  refine w_bok (pv179 _ _) ?_
  refine w_iret f264_27 rfl ?_
  exact ⟨_, q2, rfl⟩
end A

/-! what the reference answers out of a search, on -/
section A
variable {K : List AKd} {h : Nat → Nat → Int} {R : R4} {σ : Sg} {r d : Nat} {w : Nat → Int}
def ctk (w : Nat → Int) (S : BS) (t : Int) : Prop := ∃ k : Int, 0 ≤ k ∧ k < S.2.2 ∧ (vdt w (S.2.1 k.toNat) (tr w t 1)).1 = 0 ∧ (vdt w (S.2.1 k.toNat) (tr w t 1)).2.1 = t
theorem l263 {S : BS} {t : Int} (hw : h 269 = w) (hf : WFt w) (hB : BI S) (ht : 0 ≤ t ∧ t < 24) : ∀ (n : Nat) (k a b : Int), 0 ≤ k → k + n = S.2.2 → (∀ k1, 0 ≤ k1 → k1 < k → ¬ ((vdt w (S.2.1 k1.toNat) (tr w t 1)).1 = 0 ∧ (vdt w (S.2.1 k1.toNat) (tr w t 1)).2.1 = t)) →
    Rn (ev 263 26 [AR 268, AI t, AI k] [] (KS r d, bH h S a b, R)) (fun o => ∃ a b, o = (.inl (AI (b2i (ctk w S t))), (KS r d, bH h S a b, R))) := by
  intro n
  have k0 := @kd_268 r d
  have k1 := @kd_273 r d
  have k2 := @kd_274 r d
  have hn := hB.n
  have e2 : ∀ a b, bH h S a b 268 11 = S.2.2 := fun a b => rfl
  have hw9 : ∀ a b, bH h S a b 269 = w := fun a b => bH_w hw (by decide)
  induction n with
  | zero =>
    intro k a b h1 h2 h3
    refine w_iloadn f263_26 rfl ?_
    refine w_aloadn f263_27 rfl (by omega) ?_
    refine w_getI f263_28 (by decide) (by assumption) (by (try simp only [hput, hcopy, Nat.reduceEqDiff, Nat.add_left_cancel_iff, Nat.add_right_cancel_iff, Nat.left_eq_add, Nat.add_eq_left, Nat.right_eq_add, Nat.add_eq_right, Nat.reduceAdd, Nat.add_zero, Nat.succ_ne_self, Nat.one_ne_zero, Nat.zero_ne_one, eq_self, and_self, and_true, true_and, and_false, false_and, if_true, if_false, reduceIte, Int.reduceToNat, Int.toNat_natCast, e2]); exact rfl) ?_
    refine w_ic_ge (t := 69) f263_31 (by decide) (fun c1 => ?_) (fun c1 => by omega)
    refine w_iconst (v := 0) f263_69 (by decide) ?_
    refine w_zret f263_70 rfl (by decide) ?_
    exact ⟨a, b, ob_f (fun z => (by
      obtain ⟨k1, q1, q2, q3⟩ := z
      exact h3 k1 q1 (by omega) q3))⟩
  | succ n ih =>
    intro k a b h1 h2 h3
    have e3 : bH h S a b 274 k.toNat = S.2.1 k.toNat := bH_ln (by omega)
    have h9 := hB.2.2 k.toNat (by omega)
    have e5 : ∀ a b, bH h S a b 268 7 = a := fun a b => rfl
    have go : ¬ ((vdt w (S.2.1 k.toNat) (tr w t 1)).1 = 0 ∧ (vdt w (S.2.1 k.toNat) (tr w t 1)).2.1 = t) → ∀ k1, 0 ≤ k1 → k1 < k + 1 → ¬ ((vdt w (S.2.1 k1.toNat) (tr w t 1)).1 = 0 ∧ (vdt w (S.2.1 k1.toNat) (tr w t 1)).2.1 = t) := fun z k1 q1 q2 => (by
      by_cases q3 : k1 = k
      · rw [q3]; exact z
      · exact h3 k1 q1 (by omega))
    refine w_iloadn f263_26 rfl ?_
    refine w_aloadn f263_27 rfl (by omega) ?_
    refine w_getI f263_28 (by decide) (by assumption) (by (try simp only [hput, hcopy, Nat.reduceEqDiff, Nat.add_left_cancel_iff, Nat.add_right_cancel_iff, Nat.left_eq_add, Nat.add_eq_left, Nat.right_eq_add, Nat.add_eq_right, Nat.reduceAdd, Nat.add_zero, Nat.succ_ne_self, Nat.one_ne_zero, Nat.zero_ne_one, eq_self, and_self, and_true, true_and, and_false, false_and, if_true, if_false, reduceIte, Int.reduceToNat, Int.toNat_natCast, e2, e3, e5]); exact rfl) ?_
    refine w_ic_ge (t := 69) f263_31 (by decide) (fun c1 => by omega) (fun c1 => ?_)
    refine w_aloadn f263_34 rfl (by omega) ?_
    refine w_aloadn f263_35 rfl (by omega) ?_
    refine w_getR f263_36 (by assumption) rfl (by omega) ?_
    refine w_iloadn f263_39 rfl ?_
    refine w_iald f263_40 (by assumption) (by omega) (by (try simp only [hput, hcopy, Nat.reduceEqDiff, Nat.add_left_cancel_iff, Nat.add_right_cancel_iff, Nat.left_eq_add, Nat.add_eq_left, Nat.right_eq_add, Nat.add_eq_right, Nat.reduceAdd, Nat.add_zero, Nat.succ_ne_self, Nat.one_ne_zero, Nat.zero_ne_one, eq_self, and_self, and_true, true_and, and_false, false_and, if_true, if_false, reduceIte, Int.reduceToNat, Int.toNat_natCast, e2, e3, e5]); exact rfl) ?_
    refine w_aloadn f263_41 rfl (by omega) ?_
    refine w_iloadn f263_42 rfl ?_
    refine w_iconst (v := 1) f263_43 (by decide) ?_
    refine w_cV f263_44 (Or.inl rfl) rfl (by omega) (okd_of (by assumption)) rfl ⟨Nat.le_of_ble_eq_true rfl, rfl, Nat.le_of_ble_eq_true rfl⟩ (en154 _ _ _) (s154w (w := w) (hw9 _ _) ht (by decide)) (pv154 _ _) ?_
    refine w_cV f263_47 (Or.inl rfl) rfl (by omega) (okd_of (by assumption)) rfl ⟨Nat.le_of_ble_eq_true rfl, rfl, Nat.le_of_ble_eq_true rfl⟩ (en175 _ _ _) (s175 (w := w) (hw9 _ _) hf ⟨h9.1, h9.2.1⟩) (pv175 _ _) ?_
    rw [bH_setv]
    refine w_if_ne (t := 63) f263_50 (by decide) (fun c2 => ?_) (fun c2 => ?_)
    · refine w_iincn f263_63 rfl (by omega) (sto_3_2 rfl) ?_
      refine w_goto (t := 26) f263_66 (by decide) ?_
      first | exact ih _ _ _ (by omega) (by omega) (go (fun z => c2 z.1)) | exact ih _ _ _ (by omega) (by omega) (go (fun z => c3 z.2))
    · refine w_aloadn f263_53 rfl (by omega) ?_
      refine w_getI f263_54 (by decide) (by assumption) (by (try simp only [hput, hcopy, Nat.reduceEqDiff, Nat.add_left_cancel_iff, Nat.add_right_cancel_iff, Nat.left_eq_add, Nat.add_eq_left, Nat.right_eq_add, Nat.add_eq_right, Nat.reduceAdd, Nat.add_zero, Nat.succ_ne_self, Nat.one_ne_zero, Nat.zero_ne_one, eq_self, and_self, and_true, true_and, and_false, false_and, if_true, if_false, reduceIte, Int.reduceToNat, Int.toNat_natCast, e2, e3, e5]); exact rfl) ?_
      refine w_iloadn f263_57 rfl ?_
      refine w_ic_ne (t := 63) f263_58 (by decide) (fun c3 => ?_) (fun c3 => ?_)
      · refine w_iincn f263_63 rfl (by omega) (sto_3_2 rfl) ?_
        refine w_goto (t := 26) f263_66 (by decide) ?_
        first | exact ih _ _ _ (by omega) (by omega) (go (fun z => c2 z.1)) | exact ih _ _ _ (by omega) (by omega) (go (fun z => c3 z.2))
      · refine w_iconst (v := 1) f263_61 (by decide) ?_
        refine w_zret f263_62 rfl (by decide) ?_
        exact ⟨_, _, ob_t ⟨k, h1, by omega, c2, c3⟩⟩
theorem s263 {t : Int} (hw : h 269 = w) (hE : 0 ≤ w 1 ∧ w 1 ≤ 8) (hf : WFt w) (hc : WFc w) (ht : 0 ≤ t ∧ t < w 3) : Rn (ev 263 0 [AR 268, AI t, AU] [] (KS r d, h, R)) (QR r d R h 0 (AI (b2i (ctk w (bfs w (hereW w)) t)))) := by
  have k0 := @kd_268 r d
  have h1 := hereW_r hc
  have hf1 := hf.1
  have hB := (bfs_ok hf h1).1
  have hn := hB.n
  refine w_aloadn f263_0 rfl (by omega) ?_
  refine w_iconst (v := 0) f263_1 (by decide) ?_
  refine w_putI f263_2 (by assumption) ?_
  refine w_aloadn f263_5 rfl (by omega) ?_
  refine w_iloadn f263_6 rfl ?_
  refine w_iconst (v := 3) f263_7 (by decide) ?_
  refine w_cV f263_8 (Or.inl rfl) rfl (by omega) (okd_of (by assumption)) rfl ⟨Nat.le_of_ble_eq_true rfl, rfl, Nat.le_of_ble_eq_true rfl⟩ (en232 _ _ _) (s232t (w := w) (nj := 3) (by repeat (first | exact hw | refine setv_w ?_ (by decide) | refine hput_w ?_ (by decide))) rfl (by decide) (by omega) ht) (pv232 _ _) ?_
  refine w_if_eq (t := 16) f263_11 (by decide) (fun c1 => ?_) (fun c1 => by omega)
  refine w_aloadn f263_16 rfl (by omega) ?_
  refine w_aloadn f263_17 rfl (by omega) ?_
  refine w_cV f263_18 (Or.inl rfl) rfl (by omega) (okd_of (by assumption)) rfl ⟨Nat.le_of_ble_eq_true rfl, rfl, Nat.le_of_ble_eq_true rfl⟩ (en162 _) (s162 (w := w) (by repeat (first | exact hw | refine setv_w ?_ (by decide) | refine hput_w ?_ (by decide))) hc) (pv162 _ _) ?_
  refine w_qV f263_21 (Or.inl rfl) rfl (by omega) (okd_of (by assumption)) rfl ⟨Nat.le_of_ble_eq_true rfl, rfl, Nat.le_of_ble_eq_true rfl⟩ (en178 _ _) (s178 (w := w) (by repeat (first | exact hw | refine setv_w ?_ (by decide) | refine hput_w ?_ (by decide))) hE hf h1) (fun o9 ho9 => ?_)
  obtain ⟨a1, b1, rfl⟩ := ho9
  refine w_bok (pv178 _ _) ?_
  refine w_iconst (v := 0) f263_24 (by decide) ?_
  refine w_istoren f263_25 (Nat.le_of_ble_eq_true rfl) (sto_3_2 rfl) ?_
  refine (l263 (by repeat (first | exact hw | refine setv_w ?_ (by decide) | refine hput_w ?_ (by decide))) hf hB (by omega) (bfs w (hereW w)).2.2.toNat 0 _ _ (by omega) (by omega) (fun k1 q1 q2 => absurd q1 (by omega))).mono ?_
  rintro o ⟨a, b, rfl⟩
  exact ⟨_, bH_S, rfl⟩
/-- the lowest event that begins a shortest way -/
def fevG (w : Nat → Int) (c st m : Int) : Nat → Int → Int
  | 0, _ => -1
  | n + 1, e => if (vdt w c e).1 = 0 ∧ stp w (vdt w c e).2.2 st = m - 1 then e else fevG w c st m n (e + 1)
def fev (w : Nat → Int) (c st : Int) : Int := if stp w c st ≤ 0 then -1 else fevG w c st (stp w c st) (w 1).toNat 0
theorem stB_r {S : BS} (hB : BI S) {st : Int} : ∀ (n : Nat) (k : Int), 0 ≤ k → k + n = S.2.2 → -1 ≤ stB S st n k ∧ stB S st n k ≤ 10000 := by
  intro n
  have hn := hB.n
  induction n with
  | zero => intro k h1 h2; exact ⟨Int.le_refl _, by show (-1 : Int) ≤ 10000; decide⟩
  | succ n ih =>
    intro k h1 h2
    have h9 := hB.2.2 k.toNat (by omega)
    have h8 := hB.2.1 (S.2.1 k.toNat).toNat (by omega)
    unfold stB
    split
    · omega
    · exact ih _ (by omega) (by omega)
theorem stp_r (hf : WFt w) {c st : Int} (h1 : 0 ≤ c ∧ c ≤ 9999) : -1 ≤ stp w c st ∧ stp w c st ≤ 10000 := by
  have hB := (bfs_ok hf h1).1
  have hn := hB.n
  exact stB_r hB _ _ (by omega) (by omega)
theorem l265 {st m : Int} (hE : 0 ≤ w 1 ∧ w 1 ≤ 8) (hf : WFt w) (hc : WFc w) (hm : 0 ≤ m ∧ m ≤ 10000) : ∀ (n : Nat) (e : Int) (h : Nat → Nat → Int), h 269 = w → 0 ≤ e → e + n = w 1 →
    Rn (ev 265 34 [AR 268, AI st, AI m, AI e] [] (KS r d, h, R)) (fun o => ∃ h1, Scr h h1 ∧ o = (.inl (AI (fevG w (hereW w) st m n e)), (KS r d, h1, R))) := by
  intro n
  have k0 := @kd_268 r d
  have k1 := @kd_269 r d
  have h1 := hereW_r hc
  induction n with
  | zero =>
    intro e h hw h2 h3
    refine w_iloadn f265_34 rfl ?_
    refine w_aloadn f265_35 rfl (by omega) ?_
    refine w_getR f265_36 (by assumption) rfl (by omega) ?_
    refine w_iconst (v := 1) f265_39 (by decide) ?_
    refine w_iald f265_40 (by assumption) (by omega) (by (try simp only [hput, hcopy, Nat.reduceEqDiff, Nat.add_left_cancel_iff, Nat.add_right_cancel_iff, Nat.left_eq_add, Nat.add_eq_left, Nat.right_eq_add, Nat.add_eq_right, Nat.reduceAdd, Nat.add_zero, Nat.succ_ne_self, Nat.one_ne_zero, Nat.zero_ne_one, eq_self, and_self, and_true, true_and, and_false, false_and, if_true, if_false, reduceIte, Int.reduceToNat, Int.toNat_natCast, hw]); exact rfl) ?_
    refine w_ic_ge (t := 82) f265_41 (by decide) (fun c1 => ?_) (fun c1 => by omega)
    refine w_iconst (v := -1) f265_82 (by decide) ?_
    refine w_iret f265_83 rfl ?_
    exact ⟨_, Scr.rf, rfl⟩
  | succ n ih =>
    intro e h hw h2 h3
    have hv := vdt_r (e := e) hf h1
    have e9 : ∀ a b, setv h a b 268 8 = b := fun a b => (hput_j (by decide)).trans hput_s
    refine w_iloadn f265_34 rfl ?_
    refine w_aloadn f265_35 rfl (by omega) ?_
    refine w_getR f265_36 (by assumption) rfl (by omega) ?_
    refine w_iconst (v := 1) f265_39 (by decide) ?_
    refine w_iald f265_40 (by assumption) (by omega) (by (try simp only [hput, hcopy, Nat.reduceEqDiff, Nat.add_left_cancel_iff, Nat.add_right_cancel_iff, Nat.left_eq_add, Nat.add_eq_left, Nat.right_eq_add, Nat.add_eq_right, Nat.reduceAdd, Nat.add_zero, Nat.succ_ne_self, Nat.one_ne_zero, Nat.zero_ne_one, eq_self, and_self, and_true, true_and, and_false, false_and, if_true, if_false, reduceIte, Int.reduceToNat, Int.toNat_natCast, hw]); exact rfl) ?_
    refine w_ic_ge (t := 82) f265_41 (by decide) (fun c1 => by omega) (fun c1 => ?_)
    refine w_aloadn f265_44 rfl (by omega) ?_
    refine w_aloadn f265_45 rfl (by omega) ?_
    refine w_cV f265_46 (Or.inl rfl) rfl (by omega) (okd_of (by assumption)) rfl ⟨Nat.le_of_ble_eq_true rfl, rfl, Nat.le_of_ble_eq_true rfl⟩ (en162 _) (s162 (w := w) (by repeat (first | exact hw | refine setv_w ?_ (by decide) | refine hput_w ?_ (by decide))) hc) (pv162 _ _) ?_
    refine w_iloadn f265_49 rfl ?_
    refine w_cV f265_50 (Or.inl rfl) rfl (by omega) (okd_of (by assumption)) rfl ⟨Nat.le_of_ble_eq_true rfl, rfl, Nat.le_of_ble_eq_true rfl⟩ (en175 _ _ _) (s175 (w := w) (by repeat (first | exact hw | refine setv_w ?_ (by decide) | refine hput_w ?_ (by decide))) hf h1) (pv175 _ _) ?_
    refine w_if_eq (t := 59) f265_53 (by decide) (fun c2 => ?_) (fun c2 => ?_)
    · refine w_aloadn f265_59 rfl (by omega) ?_
      refine w_aloadn f265_60 rfl (by omega) ?_
      refine w_getI f265_61 (by decide) (by assumption) (by exact e9 _ _) ?_
      refine w_iloadn f265_64 rfl ?_
      refine w_qV f265_65 (Or.inl rfl) rfl (by omega) (okd_of (by assumption)) rfl ⟨Nat.le_of_ble_eq_true rfl, rfl, Nat.le_of_ble_eq_true rfl⟩ (en179 _ _ _) (s179 (w := w) (by repeat (first | exact hw | refine setv_w ?_ (by decide) | refine hput_w ?_ (by decide))) hE hf hv) (fun o9 ho9 => ?_)
      obtain ⟨h2, q2, rfl⟩ := ho9
      have q3 := setv_S.tr q2
      refine w_bok (pv179 _ _) ?_
      refine w_iloadn f265_68 rfl ?_
      refine w_iconst (v := 1) f265_69 (by decide) ?_
      refine w_isubn f265_70 (by omega) ?_
      refine w_ic_ne (t := 76) f265_71 (by decide) (fun c3 => ?_) (fun c3 => ?_)
      · refine w_iincn f265_76 rfl (by omega) (sto_4_3 rfl) ?_
        refine w_goto (t := 34) f265_79 (by decide) ?_
        first | (refine (ih _ _ (by repeat (first | exact hw | refine setv_w ?_ (by decide) | refine hput_w ?_ (by decide))) (by omega) (by omega)).mono ?_; rintro o ⟨h4, q4, rfl⟩; refine ⟨h4, setv_S.tr q4, ?_⟩; simp only [fevG]; rw [if_neg (fun z => c2 z.1)]; done) | (refine (ih _ _ (q3.hw hw) (by omega) (by omega)).mono ?_; rintro o ⟨h4, q4, rfl⟩; refine ⟨h4, q3.tr q4, ?_⟩; simp only [fevG]; rw [if_neg (fun z => c3 z.2)]; done)
      · refine w_iloadn f265_74 rfl ?_
        refine w_iret f265_75 rfl ?_
        exact ⟨_, q3, by simp only [fevG]; rw [if_pos ⟨c2, c3⟩]⟩
    · refine w_goto (t := 76) f265_56 (by decide) ?_
      refine w_iincn f265_76 rfl (by omega) (sto_4_3 rfl) ?_
      refine w_goto (t := 34) f265_79 (by decide) ?_
      first | (refine (ih _ _ (by repeat (first | exact hw | refine setv_w ?_ (by decide) | refine hput_w ?_ (by decide))) (by omega) (by omega)).mono ?_; rintro o ⟨h4, q4, rfl⟩; refine ⟨h4, setv_S.tr q4, ?_⟩; simp only [fevG]; rw [if_neg (fun z => c2 z.1)]; done) | (refine (ih _ _ (q3.hw hw) (by omega) (by omega)).mono ?_; rintro o ⟨h4, q4, rfl⟩; refine ⟨h4, q3.tr q4, ?_⟩; simp only [fevG]; rw [if_neg (fun z => c3 z.2)]; done)
theorem s265 {st : Int} (hw : h 269 = w) (hE : 0 ≤ w 1 ∧ w 1 ≤ 8) (hf : WFt w) (hc : WFc w) (h0 : 0 ≤ w 0 ∧ w 0 ≤ 10) (hs : 0 ≤ st ∧ st < w 0) : Rn (ev 265 0 [AR 268, AI st, AU, AU] [] (KS r d, h, R)) (QR r d R h 0 (AI (fev w (hereW w) st))) := by
  have k0 := @kd_268 r d
  have h1 := hereW_r hc
  have hr := stp_r (st := st) hf h1
  refine w_aloadn f265_0 rfl (by omega) ?_
  refine w_iconst (v := 0) f265_1 (by decide) ?_
  refine w_putI f265_2 (by assumption) ?_
  refine w_aloadn f265_5 rfl (by omega) ?_
  refine w_iloadn f265_6 rfl ?_
  refine w_iconst (v := 0) f265_7 (by decide) ?_
  refine w_cV f265_8 (Or.inl rfl) rfl (by omega) (okd_of (by assumption)) rfl ⟨Nat.le_of_ble_eq_true rfl, rfl, Nat.le_of_ble_eq_true rfl⟩ (en232 _ _ _) (s232t (w := w) (nj := 0) (by repeat (first | exact hw | refine setv_w ?_ (by decide) | refine hput_w ?_ (by decide))) rfl (by decide) (by omega) hs) (pv232 _ _) ?_
  refine w_if_eq (t := 16) f265_11 (by decide) (fun c1 => ?_) (fun c1 => by omega)
  refine w_aloadn f265_16 rfl (by omega) ?_
  refine w_aloadn f265_17 rfl (by omega) ?_
  refine w_cV f265_18 (Or.inl rfl) rfl (by omega) (okd_of (by assumption)) rfl ⟨Nat.le_of_ble_eq_true rfl, rfl, Nat.le_of_ble_eq_true rfl⟩ (en162 _) (s162 (w := w) (by repeat (first | exact hw | refine setv_w ?_ (by decide) | refine hput_w ?_ (by decide))) hc) (pv162 _ _) ?_
  refine w_iloadn f265_21 rfl ?_
  refine w_qV f265_22 (Or.inl rfl) rfl (by omega) (okd_of (by assumption)) rfl ⟨Nat.le_of_ble_eq_true rfl, rfl, Nat.le_of_ble_eq_true rfl⟩ (en179 _ _ _) (s179 (w := w) (by repeat (first | exact hw | refine setv_w ?_ (by decide) | refine hput_w ?_ (by decide))) hE hf h1) (fun o9 ho9 => ?_)
  obtain ⟨h2, q2, rfl⟩ := ho9
  refine w_bok (pv179 _ _) ?_
  refine w_istoren f265_25 (Nat.le_of_ble_eq_true rfl) (sto_4_2 rfl) ?_
  refine w_iloadn f265_26 rfl ?_
  refine w_if_gt (t := 32) f265_27 (by decide) (fun c2 => ?_) (fun c2 => ?_)
  · refine w_iconst (v := 0) f265_32 (by decide) ?_
    refine w_istoren f265_33 (Nat.le_of_ble_eq_true rfl) (sto_4_3 rfl) ?_
    refine (l265 hE hf hc (by omega) (w 1).toNat 0 _ (q2.hw (by repeat (first | exact hw | refine setv_w ?_ (by decide) | refine hput_w ?_ (by decide)))) (by omega) (by omega)).mono ?_
    rintro o ⟨h4, q4, rfl⟩
    exact ⟨h4, q2.tr q4, by unfold fev; rw [if_neg (by omega)]⟩
  · refine w_iconst (v := -1) f265_30 (by decide) ?_
    refine w_iret f265_31 rfl ?_
    exact ⟨_, q2, by unfold fev; rw [if_pos c2]⟩
noncomputable def dcn (w : Nat → Int) (S : BS) : Nat → Int
  | 0 => 0
  | n + 1 => dcn w S n + b2i (stk w (S.2.1 n))
theorem dcn_r {S : BS} : ∀ n : Nat, 0 ≤ dcn w S n ∧ dcn w S n ≤ n
  | 0 => ⟨Int.le_refl _, Int.le_refl _⟩
  | n + 1 => by
    have h1 := dcn_r (S := S) n
    have h2 := b2i_01 (stk w (S.2.1 n))
    show 0 ≤ dcn w S n + b2i (stk w (S.2.1 n)) ∧ dcn w S n + b2i (stk w (S.2.1 n)) ≤ ((n + 1 : Nat) : Int)
    omega
theorem l266 {S : BS} (hw : h 269 = w) (hE : 0 ≤ w 1 ∧ w 1 ≤ 8) (hf : WFt w) (hB : BI S) : ∀ (n : Nat) (k : Nat) (a b : Int), (k : Int) + n = S.2.2 →
    Rn (ev 266 17 [AR 268, AI (dcn w S k), AI (k : Int)] [] (KS r d, bH h S a b, R)) (fun o => ∃ a b, o = (.inl (AI (dcn w S S.2.2.toNat)), (KS r d, bH h S a b, R))) := by
  intro n
  have k0 := @kd_268 r d
  have k2 := @kd_274 r d
  have hn := hB.n
  have e2 : ∀ a b, bH h S a b 268 11 = S.2.2 := fun a b => rfl
  have hw9 : ∀ a b, bH h S a b 269 = w := fun a b => bH_w hw (by decide)
  induction n with
  | zero =>
    intro k a b h2
    refine w_iloadn f266_17 rfl ?_
    refine w_aloadn f266_18 rfl (by omega) ?_
    refine w_getI f266_19 (by decide) (by assumption) (by (try simp only [hput, hcopy, Nat.reduceEqDiff, Nat.add_left_cancel_iff, Nat.add_right_cancel_iff, Nat.left_eq_add, Nat.add_eq_left, Nat.right_eq_add, Nat.add_eq_right, Nat.reduceAdd, Nat.add_zero, Nat.succ_ne_self, Nat.one_ne_zero, Nat.zero_ne_one, eq_self, and_self, and_true, true_and, and_false, false_and, if_true, if_false, reduceIte, Int.reduceToNat, Int.toNat_natCast, e2]); exact rfl) ?_
    refine w_ic_ge (t := 47) f266_22 (by decide) (fun c1 => ?_) (fun c1 => by omega)
    refine w_iloadn f266_47 rfl ?_
    refine w_iret f266_48 rfl ?_
    exact ⟨a, b, by rw [show S.2.2.toNat = k by omega]⟩
  | succ n ih =>
    intro k a b h2
    have e3 : bH h S a b 274 k = S.2.1 k := bH_ln (by omega)
    have h9 := hB.2.2 k (by omega)
    have hd := dcn_r (w := w) (S := S) k
    have hb := b2i_01 (stk w (S.2.1 k))
    refine w_iloadn f266_17 rfl ?_
    refine w_aloadn f266_18 rfl (by omega) ?_
    refine w_getI f266_19 (by decide) (by assumption) (by (try simp only [hput, hcopy, Nat.reduceEqDiff, Nat.add_left_cancel_iff, Nat.add_right_cancel_iff, Nat.left_eq_add, Nat.add_eq_left, Nat.right_eq_add, Nat.add_eq_right, Nat.reduceAdd, Nat.add_zero, Nat.succ_ne_self, Nat.one_ne_zero, Nat.zero_ne_one, eq_self, and_self, and_true, true_and, and_false, false_and, if_true, if_false, reduceIte, Int.reduceToNat, Int.toNat_natCast, e2, e3]); exact rfl) ?_
    refine w_ic_ge (t := 47) f266_22 (by decide) (fun c1 => by omega) (fun c1 => ?_)
    refine w_iloadn f266_25 rfl ?_
    refine w_aloadn f266_26 rfl (by omega) ?_
    refine w_aloadn f266_27 rfl (by omega) ?_
    refine w_getR f266_28 (by assumption) rfl (by omega) ?_
    refine w_iloadn f266_31 rfl ?_
    refine w_iald f266_32 (by assumption) (by omega) (by (try simp only [hput, hcopy, Nat.reduceEqDiff, Nat.add_left_cancel_iff, Nat.add_right_cancel_iff, Nat.left_eq_add, Nat.add_eq_left, Nat.right_eq_add, Nat.add_eq_right, Nat.reduceAdd, Nat.add_zero, Nat.succ_ne_self, Nat.one_ne_zero, Nat.zero_ne_one, eq_self, and_self, and_true, true_and, and_false, false_and, if_true, if_false, reduceIte, Int.reduceToNat, Int.toNat_natCast, e2, e3]); exact rfl) ?_
    refine w_qV f266_33 (Or.inl rfl) rfl (by omega) (okd_of (by assumption)) rfl ⟨Nat.le_of_ble_eq_true rfl, rfl, Nat.le_of_ble_eq_true rfl⟩ (en176 _ _) (s176 (hw9 _ _) hf ⟨h9.1, h9.2.1⟩ hE) (fun o9 ho9 => ?_)
    obtain ⟨a1, b1, rfl⟩ := ho9
    rw [bH_setv]
    refine w_bok (pv176 _ _) ?_
    refine w_cS f266_36 (Or.inl rfl) (Nat.le_of_ble_eq_true rfl) rfl rfl ⟨Nat.le_of_ble_eq_true rfl, rfl, Nat.le_of_ble_eq_true rfl⟩ (en149 _) (s149) (pv149 _ _) ?_
    refine w_iaddn f266_39 (by omega) ?_
    refine w_istoren f266_40 (Nat.le_of_ble_eq_true rfl) (sto_3_1 rfl) ?_
    refine w_iincn f266_41 rfl (by omega) (sto_3_2 rfl) ?_
    refine w_goto (t := 17) f266_44 (by decide) ?_
    exact ih (k + 1) _ _ (by omega)
theorem s266 (hw : h 269 = w) (hE : 0 ≤ w 1 ∧ w 1 ≤ 8) (hf : WFt w) (hc : WFc w) : Rn (ev 266 0 [AR 268, AU, AU] [] (KS r d, h, R)) (QR r d R h 0 (AI (dcn w (bfs w (hereW w)) (bfs w (hereW w)).2.2.toNat))) := by
  have k0 := @kd_268 r d
  have h1 := hereW_r hc
  have hB := (bfs_ok hf h1).1
  have hn := hB.n
  refine w_aloadn f266_0 rfl (by omega) ?_
  refine w_iconst (v := 0) f266_1 (by decide) ?_
  refine w_putI f266_2 (by assumption) ?_
  refine w_aloadn f266_5 rfl (by omega) ?_
  refine w_aloadn f266_6 rfl (by omega) ?_
  refine w_cV f266_7 (Or.inl rfl) rfl (by omega) (okd_of (by assumption)) rfl ⟨Nat.le_of_ble_eq_true rfl, rfl, Nat.le_of_ble_eq_true rfl⟩ (en162 _) (s162 (w := w) (by repeat (first | exact hw | refine setv_w ?_ (by decide) | refine hput_w ?_ (by decide))) hc) (pv162 _ _) ?_
  refine w_qV f266_10 (Or.inl rfl) rfl (by omega) (okd_of (by assumption)) rfl ⟨Nat.le_of_ble_eq_true rfl, rfl, Nat.le_of_ble_eq_true rfl⟩ (en178 _ _) (s178 (w := w) (by repeat (first | exact hw | refine setv_w ?_ (by decide) | refine hput_w ?_ (by decide))) hE hf h1) (fun o9 ho9 => ?_)
  obtain ⟨a1, b1, rfl⟩ := ho9
  refine w_bok (pv178 _ _) ?_
  refine w_iconst (v := 0) f266_13 (by decide) ?_
  refine w_istoren f266_14 (Nat.le_of_ble_eq_true rfl) (sto_3_1 rfl) ?_
  refine w_iconst (v := 0) f266_15 (by decide) ?_
  refine w_istoren f266_16 (Nat.le_of_ble_eq_true rfl) (sto_3_2 rfl) ?_
  refine (l266 (k := 0) (by repeat (first | exact hw | refine setv_w ?_ (by decide) | refine hput_w ?_ (by decide))) hE hf hB (bfs w (hereW w)).2.2.toNat _ _ (by omega)).mono ?_
  rintro o ⟨a, b, rfl⟩
  exact ⟨_, bH_S, rfl⟩
noncomputable def sdG (w : Nat → Int) (S : BS) : Nat → Int → Int
  | 0, _ => -1
  | n + 1, k => if b2i (stk w (S.2.1 k.toNat)) = 1 then S.1 (S.2.1 k.toNat).toNat else sdG w S n (k + 1)
theorem l267 {S : BS} (hw : h 269 = w) (hE : 0 ≤ w 1 ∧ w 1 ≤ 8) (hf : WFt w) (hB : BI S) : ∀ (n : Nat) (k a b : Int), 0 ≤ k → k + n = S.2.2 →
    Rn (ev 267 15 [AR 268, AI k] [] (KS r d, bH h S a b, R)) (fun o => ∃ a b, o = (.inl (AI (sdG w S n k)), (KS r d, bH h S a b, R))) := by
  intro n
  have k0 := @kd_268 r d
  have k1 := @kd_273 r d
  have k2 := @kd_274 r d
  have hn := hB.n
  have e2 : ∀ a b, bH h S a b 268 11 = S.2.2 := fun a b => rfl
  have hw9 : ∀ a b, bH h S a b 269 = w := fun a b => bH_w hw (by decide)
  induction n with
  | zero =>
    intro k a b h1 h2
    refine w_iloadn f267_15 rfl ?_
    refine w_aloadn f267_16 rfl (by omega) ?_
    refine w_getI f267_17 (by decide) (by assumption) (by (try simp only [hput, hcopy, Nat.reduceEqDiff, Nat.add_left_cancel_iff, Nat.add_right_cancel_iff, Nat.left_eq_add, Nat.add_eq_left, Nat.right_eq_add, Nat.add_eq_right, Nat.reduceAdd, Nat.add_zero, Nat.succ_ne_self, Nat.one_ne_zero, Nat.zero_ne_one, eq_self, and_self, and_true, true_and, and_false, false_and, if_true, if_false, reduceIte, Int.reduceToNat, Int.toNat_natCast, e2]); exact rfl) ?_
    refine w_ic_ge (t := 54) f267_20 (by decide) (fun c1 => ?_) (fun c1 => by omega)
    refine w_iconst (v := -1) f267_54 (by decide) ?_
    refine w_iret f267_55 rfl ?_
    exact ⟨a, b, rfl⟩
  | succ n ih =>
    intro k a b h1 h2
    have e3 : ∀ a b, bH h S a b 274 k.toNat = S.2.1 k.toNat := fun a b => bH_ln (by omega)
    have h9 := hB.2.2 k.toNat (by omega)
    have e4 : ∀ a b, bH h S a b 273 (S.2.1 k.toNat).toNat = S.1 (S.2.1 k.toNat).toNat := fun a b => bH_st (by omega)
    refine w_iloadn f267_15 rfl ?_
    refine w_aloadn f267_16 rfl (by omega) ?_
    refine w_getI f267_17 (by decide) (by assumption) (by (try simp only [hput, hcopy, Nat.reduceEqDiff, Nat.add_left_cancel_iff, Nat.add_right_cancel_iff, Nat.left_eq_add, Nat.add_eq_left, Nat.right_eq_add, Nat.add_eq_right, Nat.reduceAdd, Nat.add_zero, Nat.succ_ne_self, Nat.one_ne_zero, Nat.zero_ne_one, eq_self, and_self, and_true, true_and, and_false, false_and, if_true, if_false, reduceIte, Int.reduceToNat, Int.toNat_natCast, e2, e3, e4]); exact rfl) ?_
    refine w_ic_ge (t := 54) f267_20 (by decide) (fun c1 => by omega) (fun c1 => ?_)
    refine w_aloadn f267_23 rfl (by omega) ?_
    refine w_aloadn f267_24 rfl (by omega) ?_
    refine w_getR f267_25 (by assumption) rfl (by omega) ?_
    refine w_iloadn f267_28 rfl ?_
    refine w_iald f267_29 (by assumption) (by omega) (by (try simp only [hput, hcopy, Nat.reduceEqDiff, Nat.add_left_cancel_iff, Nat.add_right_cancel_iff, Nat.left_eq_add, Nat.add_eq_left, Nat.right_eq_add, Nat.add_eq_right, Nat.reduceAdd, Nat.add_zero, Nat.succ_ne_self, Nat.one_ne_zero, Nat.zero_ne_one, eq_self, and_self, and_true, true_and, and_false, false_and, if_true, if_false, reduceIte, Int.reduceToNat, Int.toNat_natCast, e2, e3, e4]); exact rfl) ?_
    refine w_qV f267_30 (Or.inl rfl) rfl (by omega) (okd_of (by assumption)) rfl ⟨Nat.le_of_ble_eq_true rfl, rfl, Nat.le_of_ble_eq_true rfl⟩ (en176 _ _) (s176 (hw9 _ _) hf ⟨h9.1, h9.2.1⟩ hE) (fun o9 ho9 => ?_)
    obtain ⟨a1, b1, rfl⟩ := ho9
    rw [bH_setv]
    refine w_bok (pv176 _ _) ?_
    refine w_ifb_eq (t := 48) f267_33 (by decide) (fun c2 => ?_) (fun c2 => ?_)
    · refine w_iincn f267_48 rfl (by omega) (sto_2_1 rfl) ?_
      refine w_goto (t := 15) f267_51 (by decide) ?_
      have e9 : sdG w S (n + 1) k = sdG w S n (k + 1) := by
        simp only [sdG]
        rw [b2i_f c2, if_neg (by decide)]
      rw [e9]
      exact ih _ _ _ (by omega) (by omega)
    · refine w_aloadn f267_36 rfl (by omega) ?_
      refine w_getR f267_37 (by assumption) rfl (by omega) ?_
      refine w_aloadn f267_40 rfl (by omega) ?_
      refine w_getR f267_41 (by assumption) rfl (by omega) ?_
      refine w_iloadn f267_44 rfl ?_
      refine w_iald f267_45 (by assumption) (by omega) (by (try simp only [hput, hcopy, Nat.reduceEqDiff, Nat.add_left_cancel_iff, Nat.add_right_cancel_iff, Nat.left_eq_add, Nat.add_eq_left, Nat.right_eq_add, Nat.add_eq_right, Nat.reduceAdd, Nat.add_zero, Nat.succ_ne_self, Nat.one_ne_zero, Nat.zero_ne_one, eq_self, and_self, and_true, true_and, and_false, false_and, if_true, if_false, reduceIte, Int.reduceToNat, Int.toNat_natCast, e2, e3, e4]); exact rfl) ?_
      refine w_iald f267_46 (by assumption) (by omega) (by (try simp only [hput, hcopy, Nat.reduceEqDiff, Nat.add_left_cancel_iff, Nat.add_right_cancel_iff, Nat.left_eq_add, Nat.add_eq_left, Nat.right_eq_add, Nat.add_eq_right, Nat.reduceAdd, Nat.add_zero, Nat.succ_ne_self, Nat.one_ne_zero, Nat.zero_ne_one, eq_self, and_self, and_true, true_and, and_false, false_and, if_true, if_false, reduceIte, Int.reduceToNat, Int.toNat_natCast, e2, e3, e4]); exact rfl) ?_
      refine w_iret f267_47 rfl ?_
      exact ⟨_, _, by simp only [sdG]; rw [if_pos (b2i_t c2)]⟩
theorem s267 (hw : h 269 = w) (hE : 0 ≤ w 1 ∧ w 1 ≤ 8) (hf : WFt w) (hc : WFc w) : Rn (ev 267 0 [AR 268, AU] [] (KS r d, h, R)) (QR r d R h 0 (AI (sdG w (bfs w (hereW w)) (bfs w (hereW w)).2.2.toNat 0))) := by
  have k0 := @kd_268 r d
  have h1 := hereW_r hc
  have hB := (bfs_ok hf h1).1
  have hn := hB.n
  refine w_aloadn f267_0 rfl (by omega) ?_
  refine w_iconst (v := 0) f267_1 (by decide) ?_
  refine w_putI f267_2 (by assumption) ?_
  refine w_aloadn f267_5 rfl (by omega) ?_
  refine w_aloadn f267_6 rfl (by omega) ?_
  refine w_cV f267_7 (Or.inl rfl) rfl (by omega) (okd_of (by assumption)) rfl ⟨Nat.le_of_ble_eq_true rfl, rfl, Nat.le_of_ble_eq_true rfl⟩ (en162 _) (s162 (w := w) (by repeat (first | exact hw | refine setv_w ?_ (by decide) | refine hput_w ?_ (by decide))) hc) (pv162 _ _) ?_
  refine w_qV f267_10 (Or.inl rfl) rfl (by omega) (okd_of (by assumption)) rfl ⟨Nat.le_of_ble_eq_true rfl, rfl, Nat.le_of_ble_eq_true rfl⟩ (en178 _ _) (s178 (w := w) (by repeat (first | exact hw | refine setv_w ?_ (by decide) | refine hput_w ?_ (by decide))) hE hf h1) (fun o9 ho9 => ?_)
  obtain ⟨a1, b1, rfl⟩ := ho9
  refine w_bok (pv178 _ _) ?_
  refine w_iconst (v := 0) f267_13 (by decide) ?_
  refine w_istoren f267_14 (Nat.le_of_ble_eq_true rfl) (sto_2_1 rfl) ?_
  refine (l267 (by repeat (first | exact hw | refine setv_w ?_ (by decide) | refine hput_w ?_ (by decide))) hE hf hB (bfs w (hereW w)).2.2.toNat 0 _ _ (by omega) (by omega)).mono ?_
  rintro o ⟨a, b, rfl⟩
  exact ⟨_, bH_S, rfl⟩
end A

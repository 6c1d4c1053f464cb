/-! the reference's reading: a setup text -/
section A
variable {K : List AKd} {h : Nat → Nat → Int} {R : R4} {σ : Sg} {r d : Nat} {w : Nat → Int} {b : Nat → Int} {n : Int}
theorem l152 {h0 : Nat → Nat → Int} {u : Nat → Int} {T : Tk} {nn : Nat → Int} : ∀ (f : Nat) (k : Int) (h : Nat → Nat → Int), 0 ≤ k → k + f = 504 → PX h0 b n (zr u 0 k.toNat, T, nn) h → Rn (ev 152 2 [AR 268, AI k] [] (KS r d, h, R)) (fun o => ∃ h1, PX h0 b n (zr u 0 504, T, nn) h1 ∧ o = (.inl AU, (KS r d, h1, R))) := by
  intro f
  have k0 := @kd_268 r d
  have k1 := @kd_269 r d
  induction f with
  | zero =>
    intro k h h1 h2 hP
    have e : k = 504 := by omega
    subst e
    refine w_iloadn f152_2 rfl ?_
    refine w_sipush (v := 504) f152_3 (by decide) ?_
    refine w_ic_ge (t := 22) f152_6 (by decide) (fun c1 => ?_) (fun c1 => by omega)
    refine w_ret f152_22 rfl ?_
    exact ⟨h, hP, rfl⟩
  | succ f ih =>
    intro k h h1 h2 hP
    have hQ := hP.putW (j := k.toNat) (v := 0)
    have e : udI (zr u 0 k.toNat) k.toNat 0 = zr u 0 (k + 1).toNat := (zr_up (by omega)).trans (by rw [show (k + 1).toNat = k.toNat + 1 by omega])
    have hQ2 : PX h0 b n (zr u 0 (k + 1).toNat, T, nn) (hput h 269 k.toNat 0) := e ▸ hQ
    refine w_iloadn f152_2 rfl ?_
    refine w_sipush (v := 504) f152_3 (by decide) ?_
    refine w_ic_ge (t := 22) f152_6 (by decide) (fun c1 => by omega) (fun c1 => ?_)
    refine w_aloadn f152_9 rfl (by omega) ?_
    refine w_getR f152_10 (by assumption) rfl (by omega) ?_
    refine w_iloadn f152_13 rfl ?_
    refine w_iconst (v := 0) f152_14 (by decide) ?_
    refine w_iast f152_15 (by assumption) (by omega) ?_
    refine w_iincn f152_16 rfl (by omega) (sto_2_1 rfl) ?_
    refine w_goto (t := 2) f152_19 (by decide) ?_
    exact ih _ _ (by omega) (by omega) hQ2
theorem s152 {h0 : Nat → Nat → Int} {u : Nat → Int} {T : Tk} {nn : Nat → Int} (hP : PX h0 b n (u, T, nn) h) : Rn (ev 152 0 [AR 268, AU] [] (KS r d, h, R)) (fun o => ∃ h1, PX h0 b n (zr u 0 504, T, nn) h1 ∧ o = (.inl AU, (KS r d, h1, R))) := by
  refine w_iconst (v := 0) f152_0 (by decide) ?_
  refine w_istoren f152_1 (Nat.le_of_ble_eq_true rfl) (sto_2_1 rfl) ?_
  exact l152 504 0 h (by omega) (by omega) (by rw [show (0 : Int).toNat = 0 from rfl, zr_0]; exact hP)
def mTxG (b : Nat → Int) (n : Int) : Nat → PS → PM
  | 0, s => .inr s
  | f + 1, s => if s.2.1.2.2.2 = 0 then .inr s else pb (mStm b n s) (fun s => mTxG b n f s)
def mEnd (s : PS) : PM := if s.1 0 = 0 ∨ s.1 1 = 0 ∨ s.1 2 = 0 then err 6 s else if fb s.1 (startW s.1) = -1 then .inr s else err 7 s
def mTxt (b : Nat → Int) (n : Int) (w nn : Nat → Int) : PM := pb (mTxG b n 701 (zr w 0 504, tok b n 0, nn)) mEnd
theorem l212e {h0 : Nat → Nat → Int} {s : PS} (hP : PX h0 b n s h) (hW : WFm s.1) : Rn (ev 212 20 [AR 268] [] (KS r d, h, R)) (PB r d R h0 b n (mEnd s)) := by
  have k0 := @kd_268 r d
  have k1 := @kd_269 r d
  have a13 := hP.2.2.2.1
  obtain ⟨⟨v0, v1, v2, v3, v4⟩, wi, -⟩ := hW
  have i0 : 0 ≤ s.1 9 ∧ s.1 9 ≤ 9 := wi 0 (by decide) (by decide)
  have i1 : 0 ≤ s.1 10 ∧ s.1 10 ≤ 9 := wi 1 (by decide) (by decide)
  have i2 : 0 ≤ s.1 11 ∧ s.1 11 ≤ 9 := wi 2 (by decide) (by decide)
  refine w_aloadn f212_20 rfl (by omega) ?_
  refine w_getR f212_21 (by assumption) rfl (by omega) ?_
  refine w_iconst (v := 0) f212_24 (by decide) ?_
  refine w_iald f212_25 (by assumption) (by omega) (by (try simp only [hput, hcopy, Nat.reduceEqDiff, Nat.add_left_cancel_iff, Nat.add_right_cancel_iff, Nat.left_eq_add, Nat.add_eq_left, Nat.right_eq_add, Nat.add_eq_right, Nat.reduceAdd, Nat.add_zero, Nat.succ_ne_self, Nat.one_ne_zero, Nat.zero_ne_one, eq_self, and_self, and_true, true_and, and_false, false_and, if_true, if_false, reduceIte, Int.reduceToNat, Int.toNat_natCast, a13]); exact rfl) ?_
  refine w_if_eq (t := 47) f212_26 (by decide) (fun c1 => ?_) (fun c1 => ?_)
  · refine w_aloadn f212_47 rfl (by omega) ?_
    refine w_bipush (v := 6) f212_48 (by decide) ?_
    refine w_qV f212_50 (Or.inl rfl) rfl (by omega) (okd_of (by assumption)) rfl ⟨Nat.le_of_ble_eq_true rfl, rfl, Nat.le_of_ble_eq_true rfl⟩ (en193 _ _) (s193 hP) (fun o9 ho9 => ?_)
    obtain ⟨h1, q1, rfl⟩ := ho9
    refine w_bok (pv193 _ _) ?_
    refine w_zret f212_53 rfl (by exact Or.inl rfl) ?_
    first | (refine PB.f (e := (6, s.2.1.1, s.1)) ?_ q1; unfold mEnd; rw [if_pos (by omega)]; rfl; done) | (refine PB.f (e := (7, s.2.1.1, s.1)) ?_ q1; unfold mEnd; rw [if_neg (by omega), if_neg (by assumption)]; rfl; done) | (refine PB.t ?_ hP; unfold mEnd; rw [if_neg (by omega), if_pos (by assumption)]; done)
  · refine w_aloadn f212_29 rfl (by omega) ?_
    refine w_getR f212_30 (by assumption) rfl (by omega) ?_
    refine w_iconst (v := 1) f212_33 (by decide) ?_
    refine w_iald f212_34 (by assumption) (by omega) (by (try simp only [hput, hcopy, Nat.reduceEqDiff, Nat.add_left_cancel_iff, Nat.add_right_cancel_iff, Nat.left_eq_add, Nat.add_eq_left, Nat.right_eq_add, Nat.add_eq_right, Nat.reduceAdd, Nat.add_zero, Nat.succ_ne_self, Nat.one_ne_zero, Nat.zero_ne_one, eq_self, and_self, and_true, true_and, and_false, false_and, if_true, if_false, reduceIte, Int.reduceToNat, Int.toNat_natCast, a13]); exact rfl) ?_
    refine w_if_eq (t := 47) f212_35 (by decide) (fun c2 => ?_) (fun c2 => ?_)
    · refine w_aloadn f212_47 rfl (by omega) ?_
      refine w_bipush (v := 6) f212_48 (by decide) ?_
      refine w_qV f212_50 (Or.inl rfl) rfl (by omega) (okd_of (by assumption)) rfl ⟨Nat.le_of_ble_eq_true rfl, rfl, Nat.le_of_ble_eq_true rfl⟩ (en193 _ _) (s193 hP) (fun o9 ho9 => ?_)
      obtain ⟨h1, q1, rfl⟩ := ho9
      refine w_bok (pv193 _ _) ?_
      refine w_zret f212_53 rfl (by exact Or.inl rfl) ?_
      first | (refine PB.f (e := (6, s.2.1.1, s.1)) ?_ q1; unfold mEnd; rw [if_pos (by omega)]; rfl; done) | (refine PB.f (e := (7, s.2.1.1, s.1)) ?_ q1; unfold mEnd; rw [if_neg (by omega), if_neg (by assumption)]; rfl; done) | (refine PB.t ?_ hP; unfold mEnd; rw [if_neg (by omega), if_pos (by assumption)]; done)
    · refine w_aloadn f212_38 rfl (by omega) ?_
      refine w_getR f212_39 (by assumption) rfl (by omega) ?_
      refine w_iconst (v := 2) f212_42 (by decide) ?_
      refine w_iald f212_43 (by assumption) (by omega) (by (try simp only [hput, hcopy, Nat.reduceEqDiff, Nat.add_left_cancel_iff, Nat.add_right_cancel_iff, Nat.left_eq_add, Nat.add_eq_left, Nat.right_eq_add, Nat.add_eq_right, Nat.reduceAdd, Nat.add_zero, Nat.succ_ne_self, Nat.one_ne_zero, Nat.zero_ne_one, eq_self, and_self, and_true, true_and, and_false, false_and, if_true, if_false, reduceIte, Int.reduceToNat, Int.toNat_natCast, a13]); exact rfl) ?_
      refine w_if_ne (t := 54) f212_44 (by decide) (fun c3 => ?_) (fun c3 => ?_)
      · refine w_aloadn f212_54 rfl (by omega) ?_
        refine w_aloadn f212_55 rfl (by omega) ?_
        refine w_cV f212_56 (Or.inl rfl) rfl (by omega) (okd_of (by assumption)) rfl ⟨Nat.le_of_ble_eq_true rfl, rfl, Nat.le_of_ble_eq_true rfl⟩ (en163 _) (s163 a13 ⟨i0, i1, i2⟩) (pv163 _ _) ?_
        refine w_cV f212_59 (Or.inl rfl) rfl (by omega) (okd_of (by assumption)) rfl ⟨Nat.le_of_ble_eq_true rfl, rfl, Nat.le_of_ble_eq_true rfl⟩ (en171 _ _) (s171 a13 (by unfold startW; omega) v4) (pv171 _ _) ?_
        refine w_iconst (v := -1) f212_62 (by decide) ?_
        refine w_ic_eq (t := 75) f212_63 (by decide) (fun c4 => ?_) (fun c4 => ?_)
        · refine w_iconst (v := 1) f212_75 (by decide) ?_
          refine w_goto (t := 80) f212_76 (by decide) ?_
          refine w_zret f212_80 rfl (by decide) ?_
          first | (refine PB.f (e := (6, s.2.1.1, s.1)) ?_ q1; unfold mEnd; rw [if_pos (by omega)]; rfl; done) | (refine PB.f (e := (7, s.2.1.1, s.1)) ?_ q1; unfold mEnd; rw [if_neg (by omega), if_neg (by assumption)]; rfl; done) | (refine PB.t ?_ hP; unfold mEnd; rw [if_neg (by omega), if_pos (by assumption)]; done)
        · refine w_aloadn f212_66 rfl (by omega) ?_
          refine w_bipush (v := 7) f212_67 (by decide) ?_
          refine w_qV f212_69 (Or.inl rfl) rfl (by omega) (okd_of (by assumption)) rfl ⟨Nat.le_of_ble_eq_true rfl, rfl, Nat.le_of_ble_eq_true rfl⟩ (en193 _ _) (s193 hP) (fun o9 ho9 => ?_)
          obtain ⟨h1, q1, rfl⟩ := ho9
          refine w_bok (pv193 _ _) ?_
          refine w_if_eq (t := 79) f212_72 (by decide) (fun c5 => ?_) (fun c5 => absurd rfl (by assumption))
          refine w_iconst (v := 0) f212_79 (by decide) ?_
          refine w_zret f212_80 rfl (by decide) ?_
          first | (refine PB.f (e := (6, s.2.1.1, s.1)) ?_ q1; unfold mEnd; rw [if_pos (by omega)]; rfl; done) | (refine PB.f (e := (7, s.2.1.1, s.1)) ?_ q1; unfold mEnd; rw [if_neg (by omega), if_neg (by assumption)]; rfl; done) | (refine PB.t ?_ hP; unfold mEnd; rw [if_neg (by omega), if_pos (by assumption)]; done)
      · refine w_aloadn f212_47 rfl (by omega) ?_
        refine w_bipush (v := 6) f212_48 (by decide) ?_
        refine w_qV f212_50 (Or.inl rfl) rfl (by omega) (okd_of (by assumption)) rfl ⟨Nat.le_of_ble_eq_true rfl, rfl, Nat.le_of_ble_eq_true rfl⟩ (en193 _ _) (s193 hP) (fun o9 ho9 => ?_)
        obtain ⟨h1, q1, rfl⟩ := ho9
        refine w_bok (pv193 _ _) ?_
        refine w_zret f212_53 rfl (by exact Or.inl rfl) ?_
        first | (refine PB.f (e := (6, s.2.1.1, s.1)) ?_ q1; unfold mEnd; rw [if_pos (by omega)]; rfl; done) | (refine PB.f (e := (7, s.2.1.1, s.1)) ?_ q1; unfold mEnd; rw [if_neg (by omega), if_neg (by assumption)]; rfl; done) | (refine PB.t ?_ hP; unfold mEnd; rw [if_neg (by omega), if_pos (by assumption)]; done)
theorem l212 {h0 : Nat → Nat → Int} : ∀ (f : Nat) (s : PS) (h : Nat → Nat → Int), 701 - s.2.1.1 ≤ f → PX h0 b n s h → WFm s.1 → Rn (ev 212 4 [AR 268] [] (KS r d, h, R)) (PB r d R h0 b n (pb (mTxG b n f s) mEnd)) := by
  intro f
  have k0 := @kd_268 r d
  induction f with
  | zero =>
    intro s h h1 hP hW
    have := hP.2.2.1.2
    unfold TR at this
    omega
  | succ f ih =>
    intro s h h1 hP hW
    have a9 := hP.2.2.1.1.2.2.2
    refine w_aloadn f212_4 rfl (by omega) ?_
    refine w_getI f212_5 (by decide) (by assumption) (by (try simp only [hput, hcopy, Nat.reduceEqDiff, Nat.add_left_cancel_iff, Nat.add_right_cancel_iff, Nat.left_eq_add, Nat.add_eq_left, Nat.right_eq_add, Nat.add_eq_right, Nat.reduceAdd, Nat.add_zero, Nat.succ_ne_self, Nat.one_ne_zero, Nat.zero_ne_one, eq_self, and_self, and_true, true_and, and_false, false_and, if_true, if_false, reduceIte, Int.reduceToNat, Int.toNat_natCast, a9]); exact rfl) ?_
    refine w_if_eq (t := 20) f212_8 (by decide) (fun c1 => ?_) (fun c1 => ?_)
    · refine (l212e hP hW).mono (fun o9 ho9 => PB.ex ?_ ho9)
      simp only [mTxG]
      rw [if_pos c1]
      rfl
    · refine w_aloadn f212_11 rfl (by omega) ?_
      refine w_qV f212_12 (Or.inl rfl) rfl (by omega) (okd_of (by assumption)) rfl ⟨Nat.le_of_ble_eq_true rfl, rfl, Nat.le_of_ble_eq_true rfl⟩ (en211 _) (s211 hP hW.1) (fun o9 ho9 => ?_)
      rcases pb_cases ho9 with ⟨e2, m2, h2, q2, rfl⟩ | ⟨s2, m2, h2, q2, rfl⟩
      · refine w_bok (pv211 _ _) ?_
        refine w_if_ne (t := 4) f212_15 (by decide) (fun e9 => absurd e9 (by decide)) (fun _ => ?_)
        refine w_iconst (v := 0) f212_18 (by decide) ?_
        refine w_zret f212_19 rfl (by decide) ?_
        refine PB.f ?_ q2
        simp only [mTxG]
        rw [if_neg c1, m2]
        rfl
      · refine w_bok (pv211 _ _) ?_
        refine w_if_ne (t := 4) f212_15 (by decide) (fun _ => ?_) (fun e9 => absurd e9 (by decide))
        have g := mStm_G hP.1.2.2 hP.2.2.1.2 m2
        refine (ih s2 _ (by omega) q2 (mStm_W hP.1.2.2 hP.2.2.1.2 hW m2)).mono (fun o9 ho9 => PB.ex ?_ ho9)
        simp only [mTxG]
        rw [if_neg c1, m2]
        rfl
theorem WFm_0 {u : Nat → Int} : WFm (zr u 0 504) := by
  have z : ∀ y : Nat, y < 504 → zr u 0 504 y = 0 := fun y hy => if_pos ⟨by omega, by omega⟩
  have z0 := z 0 (by decide)
  have z1 := z 1 (by decide)
  have z2 := z 2 (by decide)
  have z3 := z 3 (by decide)
  have z4 := z 4 (by decide)
  refine ⟨by unfold WFb; omega, fun i q1 q2 => ?_, ⟨fun i q1 q2 => by omega, fun i q1 q2 => by omega, fun i q1 q2 => by omega⟩, fun t q1 q2 => by omega, fun t q1 q2 => by omega⟩
  rw [z _ (by omega)]
  decide
theorem s212 {h0 : Nat → Nat → Int} {u nn : Nat → Int} (hP : PX h0 b n (u, tok b n 0, nn) h) : Rn (ev 212 0 [AR 268] [] (KS r d, h, R)) (PB r d R h0 b n (mTxt b n u nn)) := by
  have k0 := @kd_268 r d
  refine w_aloadn f212_0 rfl (by omega) ?_
  refine w_qV f212_1 (Or.inl rfl) rfl (by omega) (okd_of (by assumption)) rfl ⟨Nat.le_of_ble_eq_true rfl, rfl, Nat.le_of_ble_eq_true rfl⟩ (en152 _) (s152 hP) (fun o9 ho9 => ?_)
  obtain ⟨h1, q1, rfl⟩ := ho9
  refine w_bok (pv152 _ _) ?_
  have := q1.2.2.1.2
  unfold TR at this
  exact l212 701 _ h1 (by omega) q1 WFm_0
/-- the beginning of a text -/
theorem s213 (hb : h 275 = b) (hn : h 268 13 = n) (h7 : n ≤ 700) : Rn (ev 213 0 [AR 268] [] (KS r d, h, R)) (fun o => ∃ h1, PX (hput h 268 26 0) b n (h 269, tok b n 0, h 276) h1 ∧ o = (.inl AU, (KS r d, h1, R))) := by
  have k0 := @kd_268 r d
  have hA := s192 (r := r) (d := d) (R := R) (h := hput (hput (hput (hput h 268 16 0) 268 17 (-1)) 268 26 0) 268 18 0) (b := b) (n := n) (p := 0) hb hn h7 hput_s (by decide)
  refine w_aloadn f213_0 rfl (by omega) ?_
  refine w_iconst (v := 0) f213_1 (by decide) ?_
  refine w_putI f213_2 (by assumption) ?_
  refine w_aloadn f213_5 rfl (by omega) ?_
  refine w_iconst (v := -1) f213_6 (by decide) ?_
  refine w_putI f213_7 (by assumption) ?_
  refine w_aloadn f213_10 rfl (by omega) ?_
  refine w_iconst (v := 0) f213_11 (by decide) ?_
  refine w_putI f213_12 (by assumption) ?_
  refine w_aloadn f213_15 rfl (by omega) ?_
  refine w_iconst (v := 0) f213_16 (by decide) ?_
  refine w_putI f213_17 (by assumption) ?_
  refine w_aloadn f213_20 rfl (by omega) ?_
  refine w_qV f213_21 (Or.inl rfl) rfl (by omega) (okd_of (by assumption)) rfl ⟨Nat.le_of_ble_eq_true rfl, rfl, Nat.le_of_ble_eq_true rfl⟩ (en192 _) (hA) (fun o9 ho9 => ?_)
  obtain ⟨h1, q1, q2, rfl⟩ := ho9
  refine w_bok (pv192 _ _) ?_
  refine w_ret f213_24 rfl ?_
  refine ⟨h1, ⟨⟨q1.b hb, q1.n hn, h7⟩, ⟨(q1 268 16 (by omega)).trans ?_, (q1 268 17 (by omega)).trans ?_⟩, ⟨q2, tok_r h7 (by decide)⟩, funext fun y => (q1 269 y (fun z => absurd z.1 (by decide))).trans rfl, funext fun y => (q1 276 y (fun z => absurd z.1 (by decide))).trans rfl, fun x y n1 n2 n3 => (q1 x y (fun z => n3 ⟨z.1, by omega, by omega⟩)).trans ?_⟩, rfl⟩
  · rfl
  · rfl
  · unfold hput
    by_cases e : x = 268
    · rw [if_neg (by omega)]
      by_cases e2 : y = 26
      · rw [if_pos ⟨e, e2⟩, if_pos ⟨e, e2⟩]
      · rw [if_neg (fun z => e2 z.2), if_neg (by omega), if_neg (by omega), if_neg (fun z => e2 z.2)]
    · rw [if_neg (fun z => e z.1), if_neg (fun z => e z.1), if_neg (fun z => e z.1), if_neg (fun z => e z.1), if_neg (fun z => e z.1)]
theorem s214 : ev 214 0 [AR 268] [] (KS r d, h, R) = some (.inl AU, (KS r d, hput (hput (hput h 268 13 0) 268 14 (h 268 16)) 268 15 (h 268 17), R)) := by
  refine Rn.eq ?_
  have k0 := @kd_268 r d
  refine w_aloadn f214_0 rfl (by omega) ?_
  refine w_iconst (v := 0) f214_1 (by decide) ?_
  refine w_putI f214_2 (by assumption) ?_
  refine w_aloadn f214_5 rfl (by omega) ?_
  refine w_aloadn f214_6 rfl (by omega) ?_
  refine w_getI f214_7 (by decide) (by assumption) (by (try simp only [hput, hcopy, Nat.reduceEqDiff, Nat.add_left_cancel_iff, Nat.add_right_cancel_iff, Nat.left_eq_add, Nat.add_eq_left, Nat.right_eq_add, Nat.add_eq_right, Nat.reduceAdd, Nat.add_zero, Nat.succ_ne_self, Nat.one_ne_zero, Nat.zero_ne_one, eq_self, and_self, and_true, true_and, and_false, false_and, if_true, if_false, reduceIte, Int.reduceToNat, Int.toNat_natCast]); exact rfl) ?_
  refine w_putI f214_10 (by assumption) ?_
  refine w_aloadn f214_13 rfl (by omega) ?_
  refine w_aloadn f214_14 rfl (by omega) ?_
  refine w_getI f214_15 (by decide) (by assumption) (by (try simp only [hput, hcopy, Nat.reduceEqDiff, Nat.add_left_cancel_iff, Nat.add_right_cancel_iff, Nat.left_eq_add, Nat.add_eq_left, Nat.right_eq_add, Nat.add_eq_right, Nat.reduceAdd, Nat.add_zero, Nat.succ_ne_self, Nat.one_ne_zero, Nat.zero_ne_one, eq_self, and_self, and_true, true_and, and_false, false_and, if_true, if_false, reduceIte, Int.reduceToNat, Int.toNat_natCast]); exact rfl) ?_
  refine w_putI f214_18 (by assumption) ?_
  refine w_ret f214_21 rfl ?_
  rfl
end A

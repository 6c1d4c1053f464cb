/-! the class's verdicts -/
section A
variable {K : List AKd} {h : Nat → Nat → Int} {R : R4} {σ : Sg} {r d : Nat} {w : Nat → Int} {b : Nat → Int} {n : Int}
/-- the transitions of the rules k are those of w -/
def RTr1 (h : Nat → Nat → Int) (k : Nat) (w : Nat → Int) (t : Nat) : Prop := (h (k + 47) t = tr w t 0 ∧ h (k + 48) t = tr w t 1 ∧ h (k + 49) t = tr w t 2) ∧ (h (k + 51) t = (if tr w t 3 = -1 then -1 else tr w t 4) ∧ (tr w t 3 ≠ -1 → h (k + 50) t = tr w t 3 ∧ h (k + 52) t = tr w t 5)) ∧ h (k + 54) t = (if tr w t 6 = -1 then -1 else tr w t 7) ∧ (tr w t 6 ≠ -1 → h (k + 53) t = tr w t 6 ∧ h (k + 55) t = tr w t 8)
def RTr (h : Nat → Nat → Int) (k : Nat) (w : Nat → Int) : Prop := h k 5 = w 3 ∧ ∀ t : Nat, (t : Int) < w 3 → RTr1 h k w t
theorem RTr1.fr {k t : Nat} {h1 : Nat → Nat → Int} (q : RTr1 h k w t) (e : ∀ x, k + 47 ≤ x → x < k + 56 → h1 x t = h x t) : RTr1 h1 k w t := by
  unfold RTr1
  rw [e (k + 47) (by omega) (by omega), e (k + 48) (by omega) (by omega), e (k + 49) (by omega) (by omega), e (k + 50) (by omega) (by omega), e (k + 51) (by omega) (by omega), e (k + 52) (by omega) (by omega), e (k + 53) (by omega) (by omega), e (k + 54) (by omega) (by omega), e (k + 55) (by omega) (by omega)]
  exact q
theorem RTr.fr {k : Nat} {h1 : Nat → Nat → Int} (q : RTr h k w) (e : ∀ x y, (x = k ∧ y = 5) ∨ (k + 47 ≤ x ∧ x < k + 56) → h1 x y = h x y) : RTr h1 k w :=
  ⟨(e _ _ (by omega)).trans q.1, fun t ht => (q.2 t ht).fr (fun x z1 z2 => e x t (by omega))⟩
theorem RTr.ot {k a m : Nat} {h1 : Nat → Nat → Int} (q : RTr h k w) (e : Ot a m h h1) (hd : k + 56 ≤ a ∨ a + m ≤ k) : RTr h1 k w := q.fr (fun x y z => e x y (by omega))
theorem RTr.v {k : Nat} {t : Int} (q : RTr h k w) (ht : 0 ≤ t ∧ t < w 3) : (h (k + 47) t.toNat = tr w t 0 ∧ h (k + 48) t.toNat = tr w t 1 ∧ h (k + 49) t.toNat = tr w t 2) ∧ (h (k + 51) t.toNat = (if tr w t 3 = -1 then -1 else tr w t 4) ∧ (tr w t 3 ≠ -1 → h (k + 50) t.toNat = tr w t 3 ∧ h (k + 52) t.toNat = tr w t 5)) ∧ h (k + 54) t.toNat = (if tr w t 6 = -1 then -1 else tr w t 7) ∧ (tr w t 6 ≠ -1 → h (k + 53) t.toNat = tr w t 6 ∧ h (k + 55) t.toNat = tr w t 8) := by
  have z := q.2 t.toNat (by omega)
  unfold RTr1 at z
  have e : ((t.toNat : Nat) : Int) = t := by omega
  rw [e] at z
  exact z
theorem s48 {k j : Nat} {c t : Int} (hk : ShRl (KS r d) k) (hj : ShCf (KS r d) j) (k0 : 0 < k) (j0 : 0 < j) (hW : WFm w) (hv : RTr h k w) (hc : RCf h j c) (ht : 0 ≤ t ∧ t < w 3) : ev 48 0 [AR k, AI t, AR j] [] (KS r d, h, R) = some (.inl (AI (b2i (gdB w t c = true))), (KS r d, h, R)) := by
  refine Rn.eq ?_
  obtain ⟨k1, -, -, -, -, -, a0, a1, a2, a3, a4, a5, a6, a7, a8⟩ := hk
  obtain ⟨j1, j2⟩ := hj
  have h3 := hW.1.2.2.2.1
  have h2 := hW.1.2.2.1
  obtain ⟨-, -, -, wg, -⟩ := hW.2.2.2.1 t ht.1 ht.2
  obtain ⟨-, ⟨e4, e35⟩, -⟩ := hv.v ht
  by_cases z : tr w t 3 = -1
  · rw [if_pos z] at e4
    refine w_aloadn f48_0 rfl (by omega) ?_
    refine w_getR f48_1 (by assumption) rfl (by omega) ?_
    refine w_iloadn f48_4 rfl ?_
    refine w_iald f48_5 (by assumption) (by omega) (by (try simp only [hput, hcopy, Nat.reduceEqDiff, Nat.add_left_cancel_iff, Nat.add_right_cancel_iff, Nat.left_eq_add, Nat.add_eq_left, Nat.right_eq_add, Nat.add_eq_right, Nat.reduceAdd, Nat.add_zero, Nat.succ_ne_self, Nat.one_ne_zero, Nat.zero_ne_one, eq_self, and_self, and_true, true_and, and_false, false_and, if_true, if_false, reduceIte, Int.reduceToNat, Int.toNat_natCast, e4]); exact rfl) ?_
    refine w_iconst (v := -1) f48_6 (by decide) ?_
    refine w_ic_eq (t := 39) f48_7 (by decide) (fun c1 => ?_) (fun c1 => by omega)
    refine w_iconst (v := 1) f48_39 (by decide) ?_
    refine w_goto (t := 44) f48_40 (by decide) ?_
    refine w_zret f48_44 rfl (by decide) ?_
    exact ob_t (by unfold gdB; simp [z])
  · rw [if_neg z] at e4
    obtain ⟨e3, e5⟩ := e35 z
    obtain ⟨g3, g4, g5⟩ := wg.resolve_left z
    have e6 := hc.v (i := tr w t 3) (by omega)
    refine w_aloadn f48_0 rfl (by omega) ?_
    refine w_getR f48_1 (by assumption) rfl (by omega) ?_
    refine w_iloadn f48_4 rfl ?_
    refine w_iald f48_5 (by assumption) (by omega) (by (try simp only [hput, hcopy, Nat.reduceEqDiff, Nat.add_left_cancel_iff, Nat.add_right_cancel_iff, Nat.left_eq_add, Nat.add_eq_left, Nat.right_eq_add, Nat.add_eq_right, Nat.reduceAdd, Nat.add_zero, Nat.succ_ne_self, Nat.one_ne_zero, Nat.zero_ne_one, eq_self, and_self, and_true, true_and, and_false, false_and, if_true, if_false, reduceIte, Int.reduceToNat, Int.toNat_natCast, e4, e3, e5, e6]); exact rfl) ?_
    refine w_iconst (v := -1) f48_6 (by decide) ?_
    refine w_ic_eq (t := 39) f48_7 (by decide) (fun c1 => by omega) (fun c1 => ?_)
    refine w_aloadn f48_10 rfl (by omega) ?_
    refine w_getR f48_11 (by assumption) rfl (by omega) ?_
    refine w_aloadn f48_14 rfl (by omega) ?_
    refine w_getR f48_15 (by assumption) rfl (by omega) ?_
    refine w_iloadn f48_18 rfl ?_
    refine w_iald f48_19 (by assumption) (by omega) (by (try simp only [hput, hcopy, Nat.reduceEqDiff, Nat.add_left_cancel_iff, Nat.add_right_cancel_iff, Nat.left_eq_add, Nat.add_eq_left, Nat.right_eq_add, Nat.add_eq_right, Nat.reduceAdd, Nat.add_zero, Nat.succ_ne_self, Nat.one_ne_zero, Nat.zero_ne_one, eq_self, and_self, and_true, true_and, and_false, false_and, if_true, if_false, reduceIte, Int.reduceToNat, Int.toNat_natCast, e4, e3, e5, e6]); exact rfl) ?_
    refine w_iald f48_20 (by assumption) (by omega) (by (try simp only [hput, hcopy, Nat.reduceEqDiff, Nat.add_left_cancel_iff, Nat.add_right_cancel_iff, Nat.left_eq_add, Nat.add_eq_left, Nat.right_eq_add, Nat.add_eq_right, Nat.reduceAdd, Nat.add_zero, Nat.succ_ne_self, Nat.one_ne_zero, Nat.zero_ne_one, eq_self, and_self, and_true, true_and, and_false, false_and, if_true, if_false, reduceIte, Int.reduceToNat, Int.toNat_natCast, e4, e3, e5, e6]); exact rfl) ?_
    refine w_aloadn f48_21 rfl (by omega) ?_
    refine w_getR f48_22 (by assumption) rfl (by omega) ?_
    refine w_iloadn f48_25 rfl ?_
    refine w_iald f48_26 (by assumption) (by omega) (by (try simp only [hput, hcopy, Nat.reduceEqDiff, Nat.add_left_cancel_iff, Nat.add_right_cancel_iff, Nat.left_eq_add, Nat.add_eq_left, Nat.right_eq_add, Nat.add_eq_right, Nat.reduceAdd, Nat.add_zero, Nat.succ_ne_self, Nat.one_ne_zero, Nat.zero_ne_one, eq_self, and_self, and_true, true_and, and_false, false_and, if_true, if_false, reduceIte, Int.reduceToNat, Int.toNat_natCast, e4, e3, e5, e6]); exact rfl) ?_
    refine w_aloadn f48_27 rfl (by omega) ?_
    refine w_getR f48_28 (by assumption) rfl (by omega) ?_
    refine w_iloadn f48_31 rfl ?_
    refine w_iald f48_32 (by assumption) (by omega) (by (try simp only [hput, hcopy, Nat.reduceEqDiff, Nat.add_left_cancel_iff, Nat.add_right_cancel_iff, Nat.left_eq_add, Nat.add_eq_left, Nat.right_eq_add, Nat.add_eq_right, Nat.reduceAdd, Nat.add_zero, Nat.succ_ne_self, Nat.one_ne_zero, Nat.zero_ne_one, eq_self, and_self, and_true, true_and, and_false, false_and, if_true, if_false, reduceIte, Int.reduceToNat, Int.toNat_natCast, e4, e3, e5, e6]); exact rfl) ?_
    refine w_cS f48_33 (Or.inr rfl) (Nat.le_of_ble_eq_true rfl) rfl rfl ⟨Nat.le_of_ble_eq_true rfl, rfl, Nat.le_of_ble_eq_true rfl⟩ (en136 _ _ _) (s136) (pv136 _ _) ?_
    refine w_ifb_eq (t := 43) f48_36 (by decide) (fun c2 => ?_) (fun c2 => ?_)
    · refine w_iconst (v := 0) f48_43 (by decide) ?_
      refine w_zret f48_44 rfl (by decide) ?_
      first | (refine ob_t ?_; unfold gdB; simp [*]; done) | (refine ob_f ?_; unfold gdB; simp [*]; done)
    · refine w_iconst (v := 1) f48_39 (by decide) ?_
      refine w_goto (t := 44) f48_40 (by decide) ?_
      refine w_zret f48_44 rfl (by decide) ?_
      first | (refine ob_t ?_; unfold gdB; simp [*]; done) | (refine ob_f ?_; unfold gdB; simp [*]; done)
/-- what a choice leaves -/
def ChQ (h : Nat → Nat → Int) (k : Nat) (p : Int × Int) (h1 : Nat → Nat → Int) : Prop := Ot k 1 h h1 ∧ h1 k 0 = 1 + p.1 ∧ h1 k 1 = p.2 ∧ h1 k 2 = h k 2
theorem l70 {k l j : Nat} {c e : Int} (hk : ShSp (KS r d) k) (hl : ShRl (KS r d) l) (hj : ShCf (KS r d) j) (k0 : 0 < k) (l0 : 0 < l) (j0 : 0 < j) (d1 : l + 56 ≤ k ∨ k < l) (d2 : j + 1 < k ∨ k < j) (hW : WFm w) : ∀ (f : Nat) (t x : Int) (h : Nat → Nat → Int), RTr h l w → RCf h j c → 0 ≤ t → t + f = w 3 → (x = 0 ∨ x = 1) → h k 0 = 1 + x → h k 1 = -1 → Rn (ev 70 13 [AR k, AR l, AR j, AI e, AI t] [] (KS r d, h, R)) (fun o => ∃ h1, ChQ h k (chG w c e f t x) h1 ∧ o = (.inl AU, (KS r d, h1, R))) := by
  intro f
  have hl1 := hl
  have hj1 := hj
  obtain ⟨k1, -⟩ := hk
  obtain ⟨l1, -, -, -, -, -, a0, a1, a2, a3, a4, a5, a6, a7, a8⟩ := hl
  obtain ⟨j1, j2⟩ := hj
  have h3 := hW.1.2.2.2.1
  induction f with
  | zero =>
    intro t x h hv hc h1 h2 hx e0 e1
    have g0 := hv.1
    refine w_iload f70_13 rfl ?_
    refine w_aloadn f70_15 rfl (by omega) ?_
    refine w_getI f70_16 (by decide) (by assumption) (by (try simp only [hput, hcopy, Nat.reduceEqDiff, Nat.add_left_cancel_iff, Nat.add_right_cancel_iff, Nat.left_eq_add, Nat.add_eq_left, Nat.right_eq_add, Nat.add_eq_right, Nat.reduceAdd, Nat.add_zero, Nat.succ_ne_self, Nat.one_ne_zero, Nat.zero_ne_one, eq_self, and_self, and_true, true_and, and_false, false_and, if_true, if_false, reduceIte, Int.reduceToNat, Int.toNat_natCast, g0]); exact rfl) ?_
    refine w_ic_ge (t := 75) f70_19 (by decide) (fun c1 => ?_) (fun c1 => by omega)
    refine w_ret f70_75 rfl ?_
    exact ⟨h, ⟨Ot.rf, e0, e1, rfl⟩, rfl⟩
  | succ f ih =>
    intro t x h hv hc h1 h2 hx e0 e1
    have g0 := hv.1
    have ht : 0 ≤ t ∧ t < w 3 := ⟨by omega, by omega⟩
    obtain ⟨⟨b0, b1, -⟩, -⟩ := hv.v ht
    have b2 := hc.1
    have o1 : Ot k 1 h (hput h k 0 2) := Ot.rf.put (by omega) (by omega)
    have hv1 := hv.ot o1 (by omega)
    have hc1 := hc.ot o1 (by omega)
    refine w_iload f70_13 rfl ?_
    refine w_aloadn f70_15 rfl (by omega) ?_
    refine w_getI f70_16 (by decide) (by assumption) (by (try simp only [hput, hcopy, Nat.reduceEqDiff, Nat.add_left_cancel_iff, Nat.add_right_cancel_iff, Nat.left_eq_add, Nat.add_eq_left, Nat.right_eq_add, Nat.add_eq_right, Nat.reduceAdd, Nat.add_zero, Nat.succ_ne_self, Nat.one_ne_zero, Nat.zero_ne_one, eq_self, and_self, and_true, true_and, and_false, false_and, if_true, if_false, reduceIte, Int.reduceToNat, Int.toNat_natCast, g0, b0, b1, b2]); exact rfl) ?_
    refine w_ic_ge (t := 75) f70_19 (by decide) (fun c1 => by omega) (fun c1 => ?_)
    refine w_aloadn f70_22 rfl (by omega) ?_
    refine w_getR f70_23 (by assumption) rfl (by omega) ?_
    refine w_iload f70_26 rfl ?_
    refine w_iald f70_28 (by assumption) (by omega) (by (try simp only [hput, hcopy, Nat.reduceEqDiff, Nat.add_left_cancel_iff, Nat.add_right_cancel_iff, Nat.left_eq_add, Nat.add_eq_left, Nat.right_eq_add, Nat.add_eq_right, Nat.reduceAdd, Nat.add_zero, Nat.succ_ne_self, Nat.one_ne_zero, Nat.zero_ne_one, eq_self, and_self, and_true, true_and, and_false, false_and, if_true, if_false, reduceIte, Int.reduceToNat, Int.toNat_natCast, g0, b0, b1, b2]); exact rfl) ?_
    refine w_aloadn f70_29 rfl (by omega) ?_
    refine w_getI f70_30 (by decide) (by assumption) (by (try simp only [hput, hcopy, Nat.reduceEqDiff, Nat.add_left_cancel_iff, Nat.add_right_cancel_iff, Nat.left_eq_add, Nat.add_eq_left, Nat.right_eq_add, Nat.add_eq_right, Nat.reduceAdd, Nat.add_zero, Nat.succ_ne_self, Nat.one_ne_zero, Nat.zero_ne_one, eq_self, and_self, and_true, true_and, and_false, false_and, if_true, if_false, reduceIte, Int.reduceToNat, Int.toNat_natCast, g0, b0, b1, b2]); exact rfl) ?_
    refine w_ic_ne (t := 69) f70_33 (by decide) (fun c2 => ?_) (fun c2 => ?_)
    · refine w_iincn f70_69 rfl (by omega) (sto_5_4 rfl) ?_
      refine w_goto (t := 13) f70_72 (by decide) ?_
      first | (refine (ih (t + 1) x h hv hc (by omega) (by omega) hx e0 e1).mono (fun o q => ?_); rw [show chG w c e (f + 1) t x = chG w c e f (t + 1) x from by simp only [chG]; rw [if_neg (by omega)]]; exact q; done) | (refine (ih (t + 1) 1 _ hv1 hc1 (by omega) (by omega) (Or.inr rfl) hput_s ((hput_j (by decide)).trans e1)).mono (fun o q => ?_); rw [show chG w c e (f + 1) t x = chG w c e f (t + 1) 1 from by simp only [chG]; rw [if_pos ⟨by assumption, by assumption⟩, if_neg (by assumption)]]; obtain ⟨h1, ⟨q1, q2, q3, q4⟩, rfl⟩ := q; exact ⟨h1, ⟨o1.tr q1, q2, q3, q4.trans (hput_j (by decide))⟩, rfl⟩; done)
    · refine w_aloadn f70_36 rfl (by omega) ?_
      refine w_getR f70_37 (by assumption) rfl (by omega) ?_
      refine w_iload f70_40 rfl ?_
      refine w_iald f70_42 (by assumption) (by omega) (by (try simp only [hput, hcopy, Nat.reduceEqDiff, Nat.add_left_cancel_iff, Nat.add_right_cancel_iff, Nat.left_eq_add, Nat.add_eq_left, Nat.right_eq_add, Nat.add_eq_right, Nat.reduceAdd, Nat.add_zero, Nat.succ_ne_self, Nat.one_ne_zero, Nat.zero_ne_one, eq_self, and_self, and_true, true_and, and_false, false_and, if_true, if_false, reduceIte, Int.reduceToNat, Int.toNat_natCast, g0, b0, b1, b2]); exact rfl) ?_
      refine w_iloadn f70_43 rfl ?_
      refine w_ic_ne (t := 69) f70_44 (by decide) (fun c3 => ?_) (fun c3 => ?_)
      · refine w_iincn f70_69 rfl (by omega) (sto_5_4 rfl) ?_
        refine w_goto (t := 13) f70_72 (by decide) ?_
        first | (refine (ih (t + 1) x h hv hc (by omega) (by omega) hx e0 e1).mono (fun o q => ?_); rw [show chG w c e (f + 1) t x = chG w c e f (t + 1) x from by simp only [chG]; rw [if_neg (by omega)]]; exact q; done) | (refine (ih (t + 1) 1 _ hv1 hc1 (by omega) (by omega) (Or.inr rfl) hput_s ((hput_j (by decide)).trans e1)).mono (fun o q => ?_); rw [show chG w c e (f + 1) t x = chG w c e f (t + 1) 1 from by simp only [chG]; rw [if_pos ⟨by assumption, by assumption⟩, if_neg (by assumption)]]; obtain ⟨h1, ⟨q1, q2, q3, q4⟩, rfl⟩ := q; exact ⟨h1, ⟨o1.tr q1, q2, q3, q4.trans (hput_j (by decide))⟩, rfl⟩; done)
      · refine w_aloadn f70_47 rfl (by omega) ?_
        refine w_iconst (v := 2) f70_48 (by decide) ?_
        refine w_putI f70_49 (by assumption) ?_
        refine w_aloadn f70_52 rfl (by omega) ?_
        refine w_iload f70_53 rfl ?_
        refine w_aloadn f70_55 rfl (by omega) ?_
        refine w_cV f70_56 (Or.inl rfl) rfl (by omega) (okd_of (by assumption)) rfl ⟨Nat.le_of_ble_eq_true rfl, rfl, Nat.le_of_ble_eq_true rfl⟩ (en48 _ _ _) (s48 hl1 hj1 l0 j0 hW hv1 hc1 ht) (pv48 _ _) ?_
        refine w_ifb_eq (t := 69) f70_59 (by decide) (fun c4 => ?_) (fun c4 => ?_)
        · refine w_iincn f70_69 rfl (by omega) (sto_5_4 rfl) ?_
          refine w_goto (t := 13) f70_72 (by decide) ?_
          first | (refine (ih (t + 1) x h hv hc (by omega) (by omega) hx e0 e1).mono (fun o q => ?_); rw [show chG w c e (f + 1) t x = chG w c e f (t + 1) x from by simp only [chG]; rw [if_neg (by omega)]]; exact q; done) | (refine (ih (t + 1) 1 _ hv1 hc1 (by omega) (by omega) (Or.inr rfl) hput_s ((hput_j (by decide)).trans e1)).mono (fun o q => ?_); rw [show chG w c e (f + 1) t x = chG w c e f (t + 1) 1 from by simp only [chG]; rw [if_pos ⟨by assumption, by assumption⟩, if_neg (by assumption)]]; obtain ⟨h1, ⟨q1, q2, q3, q4⟩, rfl⟩ := q; exact ⟨h1, ⟨o1.tr q1, q2, q3, q4.trans (hput_j (by decide))⟩, rfl⟩; done)
        · refine w_aloadn f70_62 rfl (by omega) ?_
          refine w_iload f70_63 rfl ?_
          refine w_putI f70_65 (by assumption) ?_
          refine w_ret f70_68 rfl ?_
          refine ⟨_, ⟨(Ot.rf.put (by omega) (by omega)).put (by omega) (by omega), ?_⟩, rfl⟩
          have z : chG w c e (f + 1) t x = (1, t) := by simp only [chG]; rw [if_pos ⟨by assumption, by assumption⟩, if_pos (by assumption)]
          rw [z]
          exact ⟨(hput_j (by decide)).trans hput_s, hput_s, (hput_j (by decide)).trans (hput_j (by decide))⟩
theorem s70 {k l j : Nat} {c e : Int} (hk : ShSp (KS r d) k) (hl : ShRl (KS r d) l) (hj : ShCf (KS r d) j) (k0 : 0 < k) (l0 : 0 < l) (j0 : 0 < j) (d1 : l + 56 ≤ k ∨ k < l) (d2 : j + 1 < k ∨ k < j) (hW : WFm w) (hv : RTr h l w) (hc : RCf h j c) : Rn (ev 70 0 [AR k, AR l, AR j, AI e, AU] [] (KS r d, h, R)) (fun o => ∃ h1, ChQ h k (ch w c e) h1 ∧ o = (.inl AU, (KS r d, h1, R))) := by
  have k1 := hk.1
  have h3 := hW.1.2.2.2.1
  have o1 : Ot k 1 h (hput (hput h k 1 (-1)) k 0 1) := (Ot.rf.put (by omega) (by omega)).put (by omega) (by omega)
  refine w_aloadn f70_0 rfl (by omega) ?_
  refine w_iconst (v := -1) f70_1 (by decide) ?_
  refine w_putI f70_2 (by assumption) ?_
  refine w_aloadn f70_5 rfl (by omega) ?_
  refine w_iconst (v := 1) f70_6 (by decide) ?_
  refine w_putI f70_7 (by assumption) ?_
  refine w_iconst (v := 0) f70_10 (by decide) ?_
  refine w_istore f70_11 (Nat.le_of_ble_eq_true rfl) (sto_5_4 rfl) ?_
  refine (l70 hk hl hj k0 l0 j0 d1 d2 hW (w 3).toNat 0 0 _ (hv.ot o1 (by omega)) (hc.ot o1 (by omega)) (by omega) (by omega) (Or.inl rfl) hput_s ((hput_j (by decide)).trans hput_s)).mono (fun o q => ?_)
  obtain ⟨h1, ⟨q1, q2, q3, q4⟩, rfl⟩ := q
  exact ⟨h1, ⟨o1.tr q1, q2, q3, q4.trans ((hput_j (by decide)).trans (hput_j (by decide)))⟩, rfl⟩
theorem s71n {k l : Nat} {t : Int} (hk : ShSp (KS r d) k) (hl : ShRl (KS r d) l) (k0 : 0 < k) (l0 : 0 < l) (h3 : w 3 ≤ 24) (hv : RTr h l w) (e1 : h k 1 = t) (ht : 0 ≤ t ∧ t < w 3) (h6 : tr w t 6 = -1) : ev 71 0 [AR k, AR l, AU, AU, AU, AU, AU] [] (KS r d, h, R) = some (.inl (AI 1), (KS r d, h, R)) := by
  refine Rn.eq ?_
  obtain ⟨k1, -⟩ := hk
  obtain ⟨l1, -, -, -, -, -, a0, a1, a2, a3, a4, a5, a6, a7, a8⟩ := hl
  obtain ⟨-, -, e4, -⟩ := hv.v ht
  rw [if_pos h6] at e4
  refine w_aloadn f71_0 rfl (by omega) ?_
  refine w_getR f71_1 (by assumption) rfl (by omega) ?_
  refine w_aloadn f71_4 rfl (by omega) ?_
  refine w_getI f71_5 (by decide) (by assumption) (by (try simp only [hput, hcopy, Nat.reduceEqDiff, Nat.add_left_cancel_iff, Nat.add_right_cancel_iff, Nat.left_eq_add, Nat.add_eq_left, Nat.right_eq_add, Nat.add_eq_right, Nat.reduceAdd, Nat.add_zero, Nat.succ_ne_self, Nat.one_ne_zero, Nat.zero_ne_one, eq_self, and_self, and_true, true_and, and_false, false_and, if_true, if_false, reduceIte, Int.reduceToNat, Int.toNat_natCast, e1, e4]); exact rfl) ?_
  refine w_iald f71_8 (by assumption) (by omega) (by (try simp only [hput, hcopy, Nat.reduceEqDiff, Nat.add_left_cancel_iff, Nat.add_right_cancel_iff, Nat.left_eq_add, Nat.add_eq_left, Nat.right_eq_add, Nat.add_eq_right, Nat.reduceAdd, Nat.add_zero, Nat.succ_ne_self, Nat.one_ne_zero, Nat.zero_ne_one, eq_self, and_self, and_true, true_and, and_false, false_and, if_true, if_false, reduceIte, Int.reduceToNat, Int.toNat_natCast, e1, e4]); exact rfl) ?_
  refine w_istoren f71_9 (Nat.le_of_ble_eq_true rfl) (sto_7_2 rfl) ?_
  refine w_iloadn f71_10 rfl ?_
  refine w_iconst (v := -1) f71_11 (by decide) ?_
  refine w_ic_ne (t := 17) f71_12 (by decide) (fun c1 => by omega) (fun c1 => ?_)
  refine w_iconst (v := 1) f71_15 (by decide) ?_
  refine w_zret f71_16 rfl (by decide) ?_
  rfl
theorem s71v {k l : Nat} {t v : Int} (hk : ShSp (KS r d) k) (hl : ShRl (KS r d) l) (k0 : 0 < k) (l0 : 0 < l) (h3 : w 3 ≤ 24) (hv : RTr h l w) (e1 : h k 1 = t) (ht : 0 ≤ t ∧ t < w 3) (h6 : tr w t 6 ≠ -1) (g6 : 0 ≤ tr w t 6 ∧ tr w t 6 < 3) (g7 : 0 ≤ tr w t 7 ∧ tr w t 7 ≤ 2) (g8 : 0 ≤ tr w t 8 ∧ tr w t 8 ≤ 9) (e2 : h (k + 2) (tr w t 6).toNat = v) (hv9 : 0 ≤ v ∧ v ≤ 9) : ev 71 0 [AR k, AR l, AU, AU, AU, AU, AU] [] (KS r d, h, R) = some (.inl (AI (b2i (0 ≤ actV w t v ∧ actV w t v ≤ 9))), (KS r d, hput h (k + 2) (tr w t 6).toNat (actV w t v), R)) := by
  refine Rn.eq ?_
  obtain ⟨k1, k2, k3⟩ := hk
  obtain ⟨l1, -, -, -, -, -, a0, a1, a2, a3, a4, a5, a6, a7, a8⟩ := hl
  obtain ⟨-, -, e4, e5⟩ := hv.v ht
  rw [if_neg h6] at e4
  obtain ⟨e6, e7⟩ := e5 h6
  have z0 : tr w t 7 = 0 → actV w t v = v + tr w t 8 := fun z => by unfold actV; rw [if_pos z]
  have z1 : tr w t 7 = 1 → actV w t v = v - tr w t 8 := fun z => by unfold actV; rw [if_neg (by omega), if_pos z]
  have z2 : tr w t 7 ≠ 0 → tr w t 7 ≠ 1 → actV w t v = tr w t 8 := fun z y => by unfold actV; rw [if_neg z, if_neg y]
  refine w_aloadn f71_0 rfl (by omega) ?_
  refine w_getR f71_1 (by assumption) rfl (by omega) ?_
  refine w_aloadn f71_4 rfl (by omega) ?_
  refine w_getI f71_5 (by decide) (by assumption) (by (try simp only [hput, hcopy, Nat.reduceEqDiff, Nat.add_left_cancel_iff, Nat.add_right_cancel_iff, Nat.left_eq_add, Nat.add_eq_left, Nat.right_eq_add, Nat.add_eq_right, Nat.reduceAdd, Nat.add_zero, Nat.succ_ne_self, Nat.one_ne_zero, Nat.zero_ne_one, eq_self, and_self, and_true, true_and, and_false, false_and, if_true, if_false, reduceIte, Int.reduceToNat, Int.toNat_natCast, e1, e4, e6, e7, e2]); exact rfl) ?_
  refine w_iald f71_8 (by assumption) (by omega) (by (try simp only [hput, hcopy, Nat.reduceEqDiff, Nat.add_left_cancel_iff, Nat.add_right_cancel_iff, Nat.left_eq_add, Nat.add_eq_left, Nat.right_eq_add, Nat.add_eq_right, Nat.reduceAdd, Nat.add_zero, Nat.succ_ne_self, Nat.one_ne_zero, Nat.zero_ne_one, eq_self, and_self, and_true, true_and, and_false, false_and, if_true, if_false, reduceIte, Int.reduceToNat, Int.toNat_natCast, e1, e4, e6, e7, e2]); exact rfl) ?_
  refine w_istoren f71_9 (Nat.le_of_ble_eq_true rfl) (sto_7_2 rfl) ?_
  refine w_iloadn f71_10 rfl ?_
  refine w_iconst (v := -1) f71_11 (by decide) ?_
  refine w_ic_ne (t := 17) f71_12 (by decide) (fun c1 => ?_) (fun c1 => by omega)
  refine w_aloadn f71_17 rfl (by omega) ?_
  refine w_getR f71_18 (by assumption) rfl (by omega) ?_
  refine w_aloadn f71_21 rfl (by omega) ?_
  refine w_getI f71_22 (by decide) (by assumption) (by (try simp only [hput, hcopy, Nat.reduceEqDiff, Nat.add_left_cancel_iff, Nat.add_right_cancel_iff, Nat.left_eq_add, Nat.add_eq_left, Nat.right_eq_add, Nat.add_eq_right, Nat.reduceAdd, Nat.add_zero, Nat.succ_ne_self, Nat.one_ne_zero, Nat.zero_ne_one, eq_self, and_self, and_true, true_and, and_false, false_and, if_true, if_false, reduceIte, Int.reduceToNat, Int.toNat_natCast, e1, e4, e6, e7, e2]); exact rfl) ?_
  refine w_iald f71_25 (by assumption) (by omega) (by (try simp only [hput, hcopy, Nat.reduceEqDiff, Nat.add_left_cancel_iff, Nat.add_right_cancel_iff, Nat.left_eq_add, Nat.add_eq_left, Nat.right_eq_add, Nat.add_eq_right, Nat.reduceAdd, Nat.add_zero, Nat.succ_ne_self, Nat.one_ne_zero, Nat.zero_ne_one, eq_self, and_self, and_true, true_and, and_false, false_and, if_true, if_false, reduceIte, Int.reduceToNat, Int.toNat_natCast, e1, e4, e6, e7, e2]); exact rfl) ?_
  refine w_istoren f71_26 (Nat.le_of_ble_eq_true rfl) (sto_7_3 rfl) ?_
  refine w_aloadn f71_27 rfl (by omega) ?_
  refine w_getR f71_28 (by assumption) rfl (by omega) ?_
  refine w_aloadn f71_31 rfl (by omega) ?_
  refine w_getI f71_32 (by decide) (by assumption) (by (try simp only [hput, hcopy, Nat.reduceEqDiff, Nat.add_left_cancel_iff, Nat.add_right_cancel_iff, Nat.left_eq_add, Nat.add_eq_left, Nat.right_eq_add, Nat.add_eq_right, Nat.reduceAdd, Nat.add_zero, Nat.succ_ne_self, Nat.one_ne_zero, Nat.zero_ne_one, eq_self, and_self, and_true, true_and, and_false, false_and, if_true, if_false, reduceIte, Int.reduceToNat, Int.toNat_natCast, e1, e4, e6, e7, e2]); exact rfl) ?_
  refine w_iald f71_35 (by assumption) (by omega) (by (try simp only [hput, hcopy, Nat.reduceEqDiff, Nat.add_left_cancel_iff, Nat.add_right_cancel_iff, Nat.left_eq_add, Nat.add_eq_left, Nat.right_eq_add, Nat.add_eq_right, Nat.reduceAdd, Nat.add_zero, Nat.succ_ne_self, Nat.one_ne_zero, Nat.zero_ne_one, eq_self, and_self, and_true, true_and, and_false, false_and, if_true, if_false, reduceIte, Int.reduceToNat, Int.toNat_natCast, e1, e4, e6, e7, e2]); exact rfl) ?_
  refine w_istore f71_36 (Nat.le_of_ble_eq_true rfl) (sto_7_4 rfl) ?_
  refine w_aloadn f71_38 rfl (by omega) ?_
  refine w_getR f71_39 (by assumption) rfl (by omega) ?_
  refine w_getR f71_42 (by assumption) rfl (by omega) ?_
  refine w_iloadn f71_45 rfl ?_
  refine w_iald f71_46 (by assumption) (by omega) (by (try simp only [hput, hcopy, Nat.reduceEqDiff, Nat.add_left_cancel_iff, Nat.add_right_cancel_iff, Nat.left_eq_add, Nat.add_eq_left, Nat.right_eq_add, Nat.add_eq_right, Nat.reduceAdd, Nat.add_zero, Nat.succ_ne_self, Nat.one_ne_zero, Nat.zero_ne_one, eq_self, and_self, and_true, true_and, and_false, false_and, if_true, if_false, reduceIte, Int.reduceToNat, Int.toNat_natCast, e1, e4, e6, e7, e2]); exact rfl) ?_
  refine w_istore f71_47 (Nat.le_of_ble_eq_true rfl) (sto_7_5 rfl) ?_
  refine w_iloadn f71_49 rfl ?_
  refine w_if_ne (t := 61) f71_50 (by decide) (fun c2 => ?_) (fun c2 => ?_)
  · refine w_iloadn f71_61 rfl ?_
    refine w_iconst (v := 1) f71_62 (by decide) ?_
    refine w_ic_ne (t := 74) f71_63 (by decide) (fun c3 => ?_) (fun c3 => ?_)
    · refine w_iload f71_74 rfl ?_
      refine w_istore f71_76 (Nat.le_of_ble_eq_true rfl) (sto_7_6 rfl) ?_
      refine w_aloadn f71_78 rfl (by omega) ?_
      refine w_getR f71_79 (by assumption) rfl (by omega) ?_
      refine w_getR f71_82 (by assumption) rfl (by omega) ?_
      refine w_iloadn f71_85 rfl ?_
      refine w_iload f71_86 rfl ?_
      refine w_iast f71_88 (by assumption) (by omega) ?_
      refine w_iload f71_89 rfl ?_
      refine w_if_lt (t := 105) f71_91 (by decide) (fun c4 => ?_) (fun c4 => ?_)
      · refine w_iconst (v := 0) f71_105 (by decide) ?_
        refine w_zret f71_106 rfl (by decide) ?_
        first | (rw [z0 (by assumption)]; first | exact ob_t (by omega) | exact ob_f (by omega)) | (rw [z1 (by assumption)]; first | exact ob_t (by omega) | exact ob_f (by omega)) | (rw [z2 (by assumption) (by assumption)]; first | exact ob_t (by omega) | exact ob_f (by omega))
      · refine w_iload f71_94 rfl ?_
        refine w_bipush (v := 9) f71_96 (by decide) ?_
        refine w_ic_gt (t := 105) f71_98 (by decide) (fun c5 => ?_) (fun c5 => ?_)
        · refine w_iconst (v := 0) f71_105 (by decide) ?_
          refine w_zret f71_106 rfl (by decide) ?_
          first | (rw [z0 (by assumption)]; first | exact ob_t (by omega) | exact ob_f (by omega)) | (rw [z1 (by assumption)]; first | exact ob_t (by omega) | exact ob_f (by omega)) | (rw [z2 (by assumption) (by assumption)]; first | exact ob_t (by omega) | exact ob_f (by omega))
        · refine w_iconst (v := 1) f71_101 (by decide) ?_
          refine w_goto (t := 106) f71_102 (by decide) ?_
          refine w_zret f71_106 rfl (by decide) ?_
          first | (rw [z0 (by assumption)]; first | exact ob_t (by omega) | exact ob_f (by omega)) | (rw [z1 (by assumption)]; first | exact ob_t (by omega) | exact ob_f (by omega)) | (rw [z2 (by assumption) (by assumption)]; first | exact ob_t (by omega) | exact ob_f (by omega))
    · refine w_iload f71_66 rfl ?_
      refine w_iload f71_68 rfl ?_
      refine w_isubn f71_70 (by omega) ?_
      refine w_goto (t := 76) f71_71 (by decide) ?_
      refine w_istore f71_76 (Nat.le_of_ble_eq_true rfl) (sto_7_6 rfl) ?_
      refine w_aloadn f71_78 rfl (by omega) ?_
      refine w_getR f71_79 (by assumption) rfl (by omega) ?_
      refine w_getR f71_82 (by assumption) rfl (by omega) ?_
      refine w_iloadn f71_85 rfl ?_
      refine w_iload f71_86 rfl ?_
      refine w_iast f71_88 (by assumption) (by omega) ?_
      refine w_iload f71_89 rfl ?_
      refine w_if_lt (t := 105) f71_91 (by decide) (fun c6 => ?_) (fun c6 => ?_)
      · refine w_iconst (v := 0) f71_105 (by decide) ?_
        refine w_zret f71_106 rfl (by decide) ?_
        first | (rw [z0 (by assumption)]; first | exact ob_t (by omega) | exact ob_f (by omega)) | (rw [z1 (by assumption)]; first | exact ob_t (by omega) | exact ob_f (by omega)) | (rw [z2 (by assumption) (by assumption)]; first | exact ob_t (by omega) | exact ob_f (by omega))
      · refine w_iload f71_94 rfl ?_
        refine w_bipush (v := 9) f71_96 (by decide) ?_
        refine w_ic_gt (t := 105) f71_98 (by decide) (fun c7 => ?_) (fun c7 => ?_)
        · refine w_iconst (v := 0) f71_105 (by decide) ?_
          refine w_zret f71_106 rfl (by decide) ?_
          first | (rw [z0 (by assumption)]; first | exact ob_t (by omega) | exact ob_f (by omega)) | (rw [z1 (by assumption)]; first | exact ob_t (by omega) | exact ob_f (by omega)) | (rw [z2 (by assumption) (by assumption)]; first | exact ob_t (by omega) | exact ob_f (by omega))
        · refine w_iconst (v := 1) f71_101 (by decide) ?_
          refine w_goto (t := 106) f71_102 (by decide) ?_
          refine w_zret f71_106 rfl (by decide) ?_
          first | (rw [z0 (by assumption)]; first | exact ob_t (by omega) | exact ob_f (by omega)) | (rw [z1 (by assumption)]; first | exact ob_t (by omega) | exact ob_f (by omega)) | (rw [z2 (by assumption) (by assumption)]; first | exact ob_t (by omega) | exact ob_f (by omega))
  · refine w_iload f71_53 rfl ?_
    refine w_iload f71_55 rfl ?_
    refine w_iaddn f71_57 (by omega) ?_
    refine w_goto (t := 76) f71_58 (by decide) ?_
    refine w_istore f71_76 (Nat.le_of_ble_eq_true rfl) (sto_7_6 rfl) ?_
    refine w_aloadn f71_78 rfl (by omega) ?_
    refine w_getR f71_79 (by assumption) rfl (by omega) ?_
    refine w_getR f71_82 (by assumption) rfl (by omega) ?_
    refine w_iloadn f71_85 rfl ?_
    refine w_iload f71_86 rfl ?_
    refine w_iast f71_88 (by assumption) (by omega) ?_
    refine w_iload f71_89 rfl ?_
    refine w_if_lt (t := 105) f71_91 (by decide) (fun c8 => ?_) (fun c8 => ?_)
    · refine w_iconst (v := 0) f71_105 (by decide) ?_
      refine w_zret f71_106 rfl (by decide) ?_
      first | (rw [z0 (by assumption)]; first | exact ob_t (by omega) | exact ob_f (by omega)) | (rw [z1 (by assumption)]; first | exact ob_t (by omega) | exact ob_f (by omega)) | (rw [z2 (by assumption) (by assumption)]; first | exact ob_t (by omega) | exact ob_f (by omega))
    · refine w_iload f71_94 rfl ?_
      refine w_bipush (v := 9) f71_96 (by decide) ?_
      refine w_ic_gt (t := 105) f71_98 (by decide) (fun c9 => ?_) (fun c9 => ?_)
      · refine w_iconst (v := 0) f71_105 (by decide) ?_
        refine w_zret f71_106 rfl (by decide) ?_
        first | (rw [z0 (by assumption)]; first | exact ob_t (by omega) | exact ob_f (by omega)) | (rw [z1 (by assumption)]; first | exact ob_t (by omega) | exact ob_f (by omega)) | (rw [z2 (by assumption) (by assumption)]; first | exact ob_t (by omega) | exact ob_f (by omega))
      · refine w_iconst (v := 1) f71_101 (by decide) ?_
        refine w_goto (t := 106) f71_102 (by decide) ?_
        refine w_zret f71_106 rfl (by decide) ?_
        first | (rw [z0 (by assumption)]; first | exact ob_t (by omega) | exact ob_f (by omega)) | (rw [z1 (by assumption)]; first | exact ob_t (by omega) | exact ob_f (by omega)) | (rw [z2 (by assumption) (by assumption)]; first | exact ob_t (by omega) | exact ob_f (by omega))
end A

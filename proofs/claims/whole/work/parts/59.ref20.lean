/-! the reference's reading: words, names, numbers -/
section A
variable {K : List AKd} {h : Nat → Nat → Int} {R : R4} {σ : Sg} {r d : Nat} {w : Nat → Int} {b : Nat → Int} {n : Int}
/-- a place in a text: w, the token, the numbers that were taken -/
abbrev PS : Type := (Nat → Int) × Tk × (Nat → Int)
/-- an error and its place; or on -/
abbrev PM : Type := Sum (Int × Int × (Nat → Int)) PS
def err (c : Int) (s : PS) : PM := .inl (c, s.2.1.1, s.1)
def adv (b : Nat → Int) (n : Int) (s : PS) : PS := (s.1, tok b n s.2.1.2.1, s.2.2)
def Fr (h0 h : Nat → Nat → Int) : Prop := ∀ x y, x ≠ 269 → x ≠ 276 → ¬ (x = 268 ∧ 16 ≤ y ∧ y ≤ 22) → h x y = h0 x y
/-- in the middle of a text -/
def PX (h0 : Nat → Nat → Int) (b : Nat → Int) (n : Int) (s : PS) (h : Nat → Nat → Int) : Prop := (h 275 = b ∧ h 268 13 = n ∧ n ≤ 700) ∧ (h 268 16 = 0 ∧ h 268 17 = -1) ∧ (TkA h s.2.1 ∧ TR s.2.1) ∧ h 269 = s.1 ∧ h 276 = s.2.2 ∧ Fr h0 h
def PF (h0 : Nat → Nat → Int) (e : Int × Int × (Nat → Int)) (h : Nat → Nat → Int) : Prop := h 268 16 = e.1 ∧ h 268 17 = e.2.1 ∧ Fr h0 h ∧ h 269 = e.2.2
/-- what a reading method comes to -/
def PB (r d : Nat) (R : R4) (h0 : Nat → Nat → Int) (b : Nat → Int) (n : Int) (m : PM) : Out → Prop := fun o => match m with
  | .inl e => ∃ h1, PF h0 e h1 ∧ o = (.inl (AI 0), (KS r d, h1, R))
  | .inr s => ∃ h1, PX h0 b n s h1 ∧ o = (.inl (AI 1), (KS r d, h1, R))
theorem Fr.put {h0 : Nat → Nat → Int} {j : Nat} {v : Int} (q : Fr h0 h) (hj : 16 ≤ j ∧ j ≤ 22) : Fr h0 (hput h 268 j v) := fun x y n1 n2 n3 => (if_neg (fun z => n3 ⟨z.1, by omega, by omega⟩)).trans (q x y n1 n2 n3)
theorem Fr.putn {h0 : Nat → Nat → Int} {j k : Nat} {v : Int} (q : Fr h0 h) (hk : k = 269 ∨ k = 276) : Fr h0 (hput h k j v) := fun x y n1 n2 n3 => (if_neg (fun z => by omega)).trans (q x y n1 n2 n3)
theorem s193 {h0 : Nat → Nat → Int} {s : PS} {c : Int} (hP : PX h0 b n s h) : Rn (ev 193 0 [AR 268, AI c] [] (KS r d, h, R)) (fun o => ∃ h1, PF h0 (c, s.2.1.1, s.1) h1 ∧ o = (.inl (AI 0), (KS r d, h1, R))) := by
  have k0 := @kd_268 r d
  obtain ⟨-, ⟨p1, p2⟩, ⟨⟨p3, -⟩, -⟩, p5, -, p4⟩ := hP
  refine w_aloadn f193_0 rfl (by omega) ?_
  refine w_getI f193_1 (by decide) (by assumption) (by (try simp only [hput, hcopy, Nat.reduceEqDiff, Nat.add_left_cancel_iff, Nat.add_right_cancel_iff, Nat.left_eq_add, Nat.add_eq_left, Nat.right_eq_add, Nat.add_eq_right, Nat.reduceAdd, Nat.add_zero, Nat.succ_ne_self, Nat.one_ne_zero, Nat.zero_ne_one, eq_self, and_self, and_true, true_and, and_false, false_and, if_true, if_false, reduceIte, Int.reduceToNat, Int.toNat_natCast, p1, p3]); exact rfl) ?_
  refine w_if_ne (t := 20) f193_4 (by decide) (fun c1 => absurd rfl c1) (fun c1 => ?_)
  refine w_aloadn f193_7 rfl (by omega) ?_
  refine w_iloadn f193_8 rfl ?_
  refine w_putI f193_9 (by assumption) ?_
  refine w_aloadn f193_12 rfl (by omega) ?_
  refine w_aloadn f193_13 rfl (by omega) ?_
  refine w_getI f193_14 (by decide) (by assumption) (by (try simp only [hput, hcopy, Nat.reduceEqDiff, Nat.add_left_cancel_iff, Nat.add_right_cancel_iff, Nat.left_eq_add, Nat.add_eq_left, Nat.right_eq_add, Nat.add_eq_right, Nat.reduceAdd, Nat.add_zero, Nat.succ_ne_self, Nat.one_ne_zero, Nat.zero_ne_one, eq_self, and_self, and_true, true_and, and_false, false_and, if_true, if_false, reduceIte, Int.reduceToNat, Int.toNat_natCast, p1, p3]); exact rfl) ?_
  refine w_putI f193_17 (by assumption) ?_
  refine w_iconst (v := 0) f193_20 (by decide) ?_
  refine w_zret f193_21 rfl (by decide) ?_
  exact ⟨_, ⟨(hput_j (by decide)).trans hput_s, hput_s, (p4.put (by decide)).put (by decide), (funext fun y => (hput_k (by decide)).trans (hput_k (by decide))).trans p5⟩, rfl⟩
theorem PX.err {h0 : Nat → Nat → Int} {s : PS} {c : Int} (hP : PX h0 b n s h) : Rn (ev 193 0 [AR 268, AI c] [] (KS r d, h, R)) (PB r d R h0 b n (err c s)) := s193 hP
/-- on to the next token -/
theorem PX.adv {h0 : Nat → Nat → Int} {s : PS} (hP : PX h0 b n s h) : Rn (ev 192 0 [AR 268, AU] [] (KS r d, h, R)) (fun o => ∃ h1, PX h0 b n (adv b n s) h1 ∧ o = (.inl AU, (KS r d, h1, R))) := by
  obtain ⟨⟨a1, a2, a3⟩, ⟨a4, a5⟩, ⟨⟨a6, a7, a8, a9⟩, a10, a11, a12⟩, a13, a14, a15⟩ := hP
  refine (s192 a1 a2 a3 a7 ⟨by omega, a12⟩).mono ?_
  rintro o ⟨h1, q1, q2, rfl⟩
  refine ⟨h1, ⟨⟨q1.b a1, q1.n a2, a3⟩, ⟨(q1 268 16 (by omega)).trans a4, (q1 268 17 (by omega)).trans a5⟩, ⟨q2, tok_r a3 ⟨by omega, a12⟩⟩, ?_, ?_, fun x y n1 n2 n3 => (q1 x y (fun z => n3 ⟨z.1, by omega, by omega⟩)).trans (a15 x y n1 n2 n3)⟩, rfl⟩
  · exact (funext fun y => q1 269 y (fun z => absurd z.1 (by decide))).trans a13
  · exact (funext fun y => q1 276 y (fun z => absurd z.1 (by decide))).trans a14
/-- the bytes from s on are those of the list -/
def eqG (b : Nat → Int) (s : Int) (l : List Int) : Nat → Int → Bool
  | 0, _ => true
  | f + 1, k => decide (b (s + k).toNat = l.getD k.toNat 0) && eqG b s l f (k + 1)
def isW (b : Nat → Int) (T : Tk) (l : List Int) : Bool := decide (T.2.2.2 = 1) && decide (T.2.1 - T.1 = (l.length : Int)) && eqG b T.1 l l.length 0
theorem l194 {h0 : Nat → Nat → Int} {s : PS} {t : Nat} (ht : t < am_txt.length) (hP : PX h0 b n s h) (hl : s.2.1.2.1 - s.2.1.1 = ((text (t + 1)).length : Int)) : ∀ (f : Nat) (k : Int), 0 ≤ k → k + f = ((text (t + 1)).length : Int) → ev 194 28 [AR 268, AS (t + 1), AI k] [] (KS r d, h, R) = some (.inl (AI (b2i (eqG b s.2.1.1 (text (t + 1)) f k = true))), (KS r d, h, R)) := by
  intro f
  have k0 := @kd_268 r d
  have k1 := @kd_275 r d
  obtain ⟨⟨a1, a2, a3⟩, -, ⟨⟨a6, a7, a8, a9⟩, a10, a11, a12⟩, -⟩ := hP
  induction f with
  | zero =>
    intro k h1 h2
    refine Rn.eq ?_
    refine w_iloadn f194_28 rfl ?_
    refine w_aloadns f194_29 rfl ?_
    refine w_tlen f194_30 (Nat.le_of_ble_eq_true rfl) (by omega) ?_
    refine w_ic_ge (t := 63) f194_33 (by decide) (fun c1 => ?_) (fun c1 => by omega)
    refine w_iconst (v := 1) f194_63 (by decide) ?_
    refine w_zret f194_64 rfl (by decide) ?_
    exact ob_t rfl
  | succ f ih =>
    intro k h1 h2
    refine Rn.eq ?_
    refine w_iloadn f194_28 rfl ?_
    refine w_aloadns f194_29 rfl ?_
    refine w_tlen f194_30 (Nat.le_of_ble_eq_true rfl) (by omega) ?_
    refine w_ic_ge (t := 63) f194_33 (by decide) (fun c1 => by omega) (fun c1 => ?_)
    refine w_aloadn f194_36 rfl (by omega) ?_
    refine w_getR f194_37 (by assumption) rfl (by omega) ?_
    refine w_aloadn f194_40 rfl (by omega) ?_
    refine w_getI f194_41 (by decide) (by assumption) (by (try simp only [hput, hcopy, Nat.reduceEqDiff, Nat.add_left_cancel_iff, Nat.add_right_cancel_iff, Nat.left_eq_add, Nat.add_eq_left, Nat.right_eq_add, Nat.add_eq_right, Nat.reduceAdd, Nat.add_zero, Nat.succ_ne_self, Nat.one_ne_zero, Nat.zero_ne_one, eq_self, and_self, and_true, true_and, and_false, false_and, if_true, if_false, reduceIte, Int.reduceToNat, Int.toNat_natCast, a6, a1]); exact rfl) ?_
    refine w_iloadn f194_44 rfl ?_
    refine w_iaddn f194_45 (by omega) ?_
    refine w_iald f194_46 (by assumption) (by omega) (by (try simp only [hput, hcopy, Nat.reduceEqDiff, Nat.add_left_cancel_iff, Nat.add_right_cancel_iff, Nat.left_eq_add, Nat.add_eq_left, Nat.right_eq_add, Nat.add_eq_right, Nat.reduceAdd, Nat.add_zero, Nat.succ_ne_self, Nat.one_ne_zero, Nat.zero_ne_one, eq_self, and_self, and_true, true_and, and_false, false_and, if_true, if_false, reduceIte, Int.reduceToNat, Int.toNat_natCast, a6, a1]); exact rfl) ?_
    refine w_aloadns f194_47 rfl ?_
    refine w_iloadn f194_48 rfl ?_
    refine w_tchar f194_49 (Nat.le_of_ble_eq_true rfl) (by omega) (by omega) rfl ?_
    refine w_ic_eq (t := 57) f194_52 (by decide) (fun c2 => ?_) (fun c2 => ?_)
    · refine w_iincn f194_57 rfl (by omega) (sto_3_2 rfl) ?_
      refine w_goto (t := 28) f194_60 (by decide) ?_
      refine Rn.to (ih _ (by omega) (by omega)) (ob_b ?_)
      simp only [eqG, Bool.and_eq_true, decide_eq_true_eq]
      exact ⟨fun z => ⟨c2, z⟩, fun z => z.2⟩
    · refine w_iconst (v := 0) f194_55 (by decide) ?_
      refine w_zret f194_56 rfl (by decide) ?_
      exact ob_f (fun z => by simp only [eqG, Bool.and_eq_true, decide_eq_true_eq] at z; exact absurd z.1 c2)
theorem s194 {h0 : Nat → Nat → Int} {s : PS} {t : Nat} (ht : t < am_txt.length) (hP : PX h0 b n s h) : ev 194 0 [AR 268, AS (t + 1), AU] [] (KS r d, h, R) = some (.inl (AI (b2i (isW b s.2.1 (text (t + 1)) = true))), (KS r d, h, R)) := by
  refine Rn.eq ?_
  have k0 := @kd_268 r d
  have hP1 := hP
  obtain ⟨⟨a1, a2, a3⟩, -, ⟨⟨a6, a7, a8, a9⟩, a10, a11, a12⟩, -⟩ := hP
  refine w_aloadn f194_0 rfl (by omega) ?_
  refine w_getI f194_1 (by decide) (by assumption) (by (try simp only [hput, hcopy, Nat.reduceEqDiff, Nat.add_left_cancel_iff, Nat.add_right_cancel_iff, Nat.left_eq_add, Nat.add_eq_left, Nat.right_eq_add, Nat.add_eq_right, Nat.reduceAdd, Nat.add_zero, Nat.succ_ne_self, Nat.one_ne_zero, Nat.zero_ne_one, eq_self, and_self, and_true, true_and, and_false, false_and, if_true, if_false, reduceIte, Int.reduceToNat, Int.toNat_natCast, a6, a7, a9]); exact rfl) ?_
  refine w_iconst (v := 1) f194_4 (by decide) ?_
  refine w_ic_ne (t := 24) f194_5 (by decide) (fun c1 => ?_) (fun c1 => ?_)
  · refine w_iconst (v := 0) f194_24 (by decide) ?_
    refine w_zret f194_25 rfl (by decide) ?_
    exact ob_f (fun z => by simp only [isW, Bool.and_eq_true, decide_eq_true_eq] at z; omega)
  · refine w_aloadn f194_8 rfl (by omega) ?_
    refine w_getI f194_9 (by decide) (by assumption) (by (try simp only [hput, hcopy, Nat.reduceEqDiff, Nat.add_left_cancel_iff, Nat.add_right_cancel_iff, Nat.left_eq_add, Nat.add_eq_left, Nat.right_eq_add, Nat.add_eq_right, Nat.reduceAdd, Nat.add_zero, Nat.succ_ne_self, Nat.one_ne_zero, Nat.zero_ne_one, eq_self, and_self, and_true, true_and, and_false, false_and, if_true, if_false, reduceIte, Int.reduceToNat, Int.toNat_natCast, a6, a7, a9]); exact rfl) ?_
    refine w_aloadn f194_12 rfl (by omega) ?_
    refine w_getI f194_13 (by decide) (by assumption) (by (try simp only [hput, hcopy, Nat.reduceEqDiff, Nat.add_left_cancel_iff, Nat.add_right_cancel_iff, Nat.left_eq_add, Nat.add_eq_left, Nat.right_eq_add, Nat.add_eq_right, Nat.reduceAdd, Nat.add_zero, Nat.succ_ne_self, Nat.one_ne_zero, Nat.zero_ne_one, eq_self, and_self, and_true, true_and, and_false, false_and, if_true, if_false, reduceIte, Int.reduceToNat, Int.toNat_natCast, a6, a7, a9]); exact rfl) ?_
    refine w_isubn f194_16 (by omega) ?_
    refine w_aloadns f194_17 rfl ?_
    refine w_tlen f194_18 (Nat.le_of_ble_eq_true rfl) (by omega) ?_
    refine w_ic_eq (t := 26) f194_21 (by decide) (fun c2 => ?_) (fun c2 => ?_)
    · refine w_iconst (v := 0) f194_26 (by decide) ?_
      refine w_istoren f194_27 (Nat.le_of_ble_eq_true rfl) (sto_3_2 rfl) ?_
      refine Rn.to (l194 ht hP1 c2 (text (t + 1)).length 0 (by omega) (by omega)) (ob_b ?_)
      simp only [isW, Bool.and_eq_true, decide_eq_true_eq]
      exact ⟨fun z => ⟨⟨c1, c2⟩, z⟩, fun z => z.2⟩
    · refine w_iconst (v := 0) f194_24 (by decide) ?_
      refine w_zret f194_25 rfl (by decide) ?_
      exact ob_f (fun z => by simp only [isW, Bool.and_eq_true, decide_eq_true_eq] at z; omega)
def mSem (b : Nat → Int) (n : Int) (s : PS) : PM := if s.2.1.2.2.2 = 3 then .inr (adv b n s) else err 1 s
theorem s197 {h0 : Nat → Nat → Int} {s : PS} (hP : PX h0 b n s h) : Rn (ev 197 0 [AR 268] [] (KS r d, h, R)) (PB r d R h0 b n (mSem b n s)) := by
  have k0 := @kd_268 r d
  have a9 := hP.2.2.1.1.2.2.2
  refine w_aloadn f197_0 rfl (by omega) ?_
  refine w_getI f197_1 (by decide) (by assumption) (by (try simp only [hput, hcopy, Nat.reduceEqDiff, Nat.add_left_cancel_iff, Nat.add_right_cancel_iff, Nat.left_eq_add, Nat.add_eq_left, Nat.right_eq_add, Nat.add_eq_right, Nat.reduceAdd, Nat.add_zero, Nat.succ_ne_self, Nat.one_ne_zero, Nat.zero_ne_one, eq_self, and_self, and_true, true_and, and_false, false_and, if_true, if_false, reduceIte, Int.reduceToNat, Int.toNat_natCast, a9]); exact rfl) ?_
  refine w_iconst (v := 3) f197_4 (by decide) ?_
  refine w_ic_eq (t := 14) f197_5 (by decide) (fun c1 => ?_) (fun c1 => ?_)
  · refine w_aloadn f197_14 rfl (by omega) ?_
    refine w_qV f197_15 (Or.inl rfl) rfl (by omega) (okd_of (by assumption)) rfl ⟨Nat.le_of_ble_eq_true rfl, rfl, Nat.le_of_ble_eq_true rfl⟩ (en192 _) (hP.adv) (fun o9 ho9 => ?_)
    obtain ⟨h1, q1, rfl⟩ := ho9
    refine w_bok (pv192 _ _) ?_
    refine w_iconst (v := 1) f197_18 (by decide) ?_
    refine w_zret f197_19 rfl (by decide) ?_
    first | (unfold mSem; rw [if_pos c1]; exact ⟨h1, q1, rfl⟩; done) | (unfold mSem; rw [if_neg c1]; exact ⟨h1, q1, rfl⟩; done)
  · refine w_aloadn f197_8 rfl (by omega) ?_
    refine w_iconst (v := 1) f197_9 (by decide) ?_
    refine w_qV f197_10 (Or.inl rfl) rfl (by omega) (okd_of (by assumption)) rfl ⟨Nat.le_of_ble_eq_true rfl, rfl, Nat.le_of_ble_eq_true rfl⟩ (en193 _ _) (s193 hP) (fun o9 ho9 => ?_)
    obtain ⟨h1, q1, rfl⟩ := ho9
    refine w_bok (pv193 _ _) ?_
    refine w_zret f197_13 rfl (by exact Or.inl rfl) ?_
    first | (unfold mSem; rw [if_pos c1]; exact ⟨h1, q1, rfl⟩; done) | (unfold mSem; rw [if_neg c1]; exact ⟨h1, q1, rfl⟩; done)
def mWrd (b : Nat → Int) (n : Int) (x : Int) (s : PS) : PM := if x = 0 then err 1 s else .inr (adv b n s)
theorem s203 {h0 : Nat → Nat → Int} {s : PS} {x : Int} (hP : PX h0 b n s h) : Rn (ev 203 0 [AR 268, AI x] [] (KS r d, h, R)) (PB r d R h0 b n (mWrd b n x s)) := by
  have k0 := @kd_268 r d
  refine w_iloadn f203_0 rfl ?_
  refine w_if_ne (t := 10) f203_1 (by decide) (fun c1 => ?_) (fun c1 => ?_)
  · refine w_aloadn f203_10 rfl (by omega) ?_
    refine w_qV f203_11 (Or.inl rfl) rfl (by omega) (okd_of (by assumption)) rfl ⟨Nat.le_of_ble_eq_true rfl, rfl, Nat.le_of_ble_eq_true rfl⟩ (en192 _) (hP.adv) (fun o9 ho9 => ?_)
    obtain ⟨h1, q1, rfl⟩ := ho9
    refine w_bok (pv192 _ _) ?_
    refine w_iconst (v := 1) f203_14 (by decide) ?_
    refine w_zret f203_15 rfl (by decide) ?_
    first | (unfold mWrd; rw [if_neg c1]; exact ⟨h1, q1, rfl⟩; done) | (unfold mWrd; rw [if_pos c1]; exact ⟨h1, q1, rfl⟩; done)
  · refine w_aloadn f203_4 rfl (by omega) ?_
    refine w_iconst (v := 1) f203_5 (by decide) ?_
    refine w_qV f203_6 (Or.inl rfl) rfl (by omega) (okd_of (by assumption)) rfl ⟨Nat.le_of_ble_eq_true rfl, rfl, Nat.le_of_ble_eq_true rfl⟩ (en193 _ _) (s193 hP) (fun o9 ho9 => ?_)
    obtain ⟨h1, q1, rfl⟩ := ho9
    refine w_bok (pv193 _ _) ?_
    refine w_zret f203_9 rfl (by exact Or.inl rfl) ?_
    first | (unfold mWrd; rw [if_neg c1]; exact ⟨h1, q1, rfl⟩; done) | (unfold mWrd; rw [if_pos c1]; exact ⟨h1, q1, rfl⟩; done)
end A

/-! the reference's reading: transitions, invariants, statements -/
section A
variable {K : List AKd} {h : Nat → Nat → Int} {R : R4} {σ : Sg} {r d : Nat} {w : Nat → Int} {b : Nat → Int} {n : Int}
def ldW (w : Nat → Int) (s e t : Int) : Nat → Int := udI (udI (udI (udI (udI (udI w (93 + 9 * w 3 + 0).toNat s) (93 + 9 * w 3 + 1).toNat e) (93 + 9 * w 3 + 2).toNat t) (93 + 9 * w 3 + 3).toNat (-1)) (93 + 9 * w 3 + 6).toNat (-1)) 3 (w 3 + 1)
theorem s156 {h0 : Nat → Nat → Int} {s : PS} {x y z : Int} (hP : PX h0 b n s h) (h3 : 0 ≤ s.1 3 ∧ s.1 3 ≤ 23) : Rn (ev 156 0 [AR 268, AI x, AI y, AI z, AU] [] (KS r d, h, R)) (fun o => ∃ h1, PX h0 b n (ldW s.1 x y z, s.2.1, s.2.2) h1 ∧ o = (.inl AU, (KS r d, h1, R))) := by
  have k0 := @kd_268 r d
  have k1 := @kd_269 r d
  have a3 : h 269 3 = s.1 3 := congrFun hP.2.2.2.1 3
  refine w_bipush (v := 93) f156_0 (by decide) ?_
  refine w_bipush (v := 9) f156_2 (by decide) ?_
  refine w_aloadn f156_4 rfl (by omega) ?_
  refine w_getR f156_5 (by assumption) rfl (by omega) ?_
  refine w_iconst (v := 3) f156_8 (by decide) ?_
  refine w_iald f156_9 (by assumption) (by omega) (by (try simp only [hput, hcopy, Nat.reduceEqDiff, Nat.add_left_cancel_iff, Nat.add_right_cancel_iff, Nat.left_eq_add, Nat.add_eq_left, Nat.right_eq_add, Nat.add_eq_right, Nat.reduceAdd, Nat.add_zero, Nat.succ_ne_self, Nat.one_ne_zero, Nat.zero_ne_one, eq_self, and_self, and_true, true_and, and_false, false_and, if_true, if_false, reduceIte, Int.reduceToNat, Int.toNat_natCast, a3]); exact rfl) ?_
  refine w_imuln f156_10 (by omega) ?_
  refine w_iaddn f156_11 (by omega) ?_
  refine w_istore f156_12 (Nat.le_of_ble_eq_true rfl) (sto_5_4 rfl) ?_
  refine w_aloadn f156_14 rfl (by omega) ?_
  refine w_getR f156_15 (by assumption) rfl (by omega) ?_
  refine w_iload f156_18 rfl ?_
  refine w_iconst (v := 0) f156_20 (by decide) ?_
  refine w_iaddn f156_21 (by omega) ?_
  refine w_iloadn f156_22 rfl ?_
  refine w_iast f156_23 (by assumption) (by omega) ?_
  refine w_aloadn f156_24 rfl (by omega) ?_
  refine w_getR f156_25 (by assumption) rfl (by omega) ?_
  refine w_iload f156_28 rfl ?_
  refine w_iconst (v := 1) f156_30 (by decide) ?_
  refine w_iaddn f156_31 (by omega) ?_
  refine w_iloadn f156_32 rfl ?_
  refine w_iast f156_33 (by assumption) (by omega) ?_
  refine w_aloadn f156_34 rfl (by omega) ?_
  refine w_getR f156_35 (by assumption) rfl (by omega) ?_
  refine w_iload f156_38 rfl ?_
  refine w_iconst (v := 2) f156_40 (by decide) ?_
  refine w_iaddn f156_41 (by omega) ?_
  refine w_iloadn f156_42 rfl ?_
  refine w_iast f156_43 (by assumption) (by omega) ?_
  refine w_aloadn f156_44 rfl (by omega) ?_
  refine w_getR f156_45 (by assumption) rfl (by omega) ?_
  refine w_iload f156_48 rfl ?_
  refine w_iconst (v := 3) f156_50 (by decide) ?_
  refine w_iaddn f156_51 (by omega) ?_
  refine w_iconst (v := -1) f156_52 (by decide) ?_
  refine w_iast f156_53 (by assumption) (by omega) ?_
  refine w_aloadn f156_54 rfl (by omega) ?_
  refine w_getR f156_55 (by assumption) rfl (by omega) ?_
  refine w_iload f156_58 rfl ?_
  refine w_bipush (v := 6) f156_60 (by decide) ?_
  refine w_iaddn f156_62 (by omega) ?_
  refine w_iconst (v := -1) f156_63 (by decide) ?_
  refine w_iast f156_64 (by assumption) (by omega) ?_
  refine w_aloadn f156_65 rfl (by omega) ?_
  refine w_getR f156_66 (by assumption) rfl (by omega) ?_
  refine w_iconst (v := 3) f156_69 (by decide) ?_
  refine w_dup2 f156_70 rfl ?_
  refine w_iald f156_71 (by assumption) (by omega) (by exact (hput_j (by show (3 : Nat) ≠ _; omega)).trans ((hput_j (by show (3 : Nat) ≠ _; omega)).trans ((hput_j (by show (3 : Nat) ≠ _; omega)).trans ((hput_j (by show (3 : Nat) ≠ _; omega)).trans ((hput_j (by show (3 : Nat) ≠ _; omega)).trans a3))))) ?_
  refine w_iconst (v := 1) f156_72 (by decide) ?_
  refine w_iaddn f156_73 (by omega) ?_
  refine w_iast f156_74 (by assumption) (by omega) ?_
  refine w_ret f156_75 rfl ?_
  exact ⟨_, hP.putW.putW.putW.putW.putW.putW, rfl⟩
def gdW (w : Nat → Int) (x y z : Int) : Nat → Int := udI (udI (udI w (93 + 9 * (w 3 - 1) + 3).toNat x) (93 + 9 * (w 3 - 1) + 4).toNat y) (93 + 9 * (w 3 - 1) + 5).toNat z
theorem s157 {h0 : Nat → Nat → Int} {s : PS} {x y z : Int} (hP : PX h0 b n s h) (h3 : 1 ≤ s.1 3 ∧ s.1 3 ≤ 24) : Rn (ev 157 0 [AR 268, AI x, AI y, AI z, AU] [] (KS r d, h, R)) (fun o => ∃ h1, PX h0 b n (gdW s.1 x y z, s.2.1, s.2.2) h1 ∧ o = (.inl AU, (KS r d, h1, R))) := by
  have k0 := @kd_268 r d
  have k1 := @kd_269 r d
  have a3 : h 269 3 = s.1 3 := congrFun hP.2.2.2.1 3
  refine w_bipush (v := 93) f157_0 (by decide) ?_
  refine w_bipush (v := 9) f157_2 (by decide) ?_
  refine w_aloadn f157_4 rfl (by omega) ?_
  refine w_getR f157_5 (by assumption) rfl (by omega) ?_
  refine w_iconst (v := 3) f157_8 (by decide) ?_
  refine w_iald f157_9 (by assumption) (by omega) (by (try simp only [hput, hcopy, Nat.reduceEqDiff, Nat.add_left_cancel_iff, Nat.add_right_cancel_iff, Nat.left_eq_add, Nat.add_eq_left, Nat.right_eq_add, Nat.add_eq_right, Nat.reduceAdd, Nat.add_zero, Nat.succ_ne_self, Nat.one_ne_zero, Nat.zero_ne_one, eq_self, and_self, and_true, true_and, and_false, false_and, if_true, if_false, reduceIte, Int.reduceToNat, Int.toNat_natCast, a3]); exact rfl) ?_
  refine w_iconst (v := 1) f157_10 (by decide) ?_
  refine w_isubn f157_11 (by omega) ?_
  refine w_imuln f157_12 (by omega) ?_
  refine w_iaddn f157_13 (by omega) ?_
  refine w_istore f157_14 (Nat.le_of_ble_eq_true rfl) (sto_5_4 rfl) ?_
  refine w_aloadn f157_16 rfl (by omega) ?_
  refine w_getR f157_17 (by assumption) rfl (by omega) ?_
  refine w_iload f157_20 rfl ?_
  refine w_iconst (v := 3) f157_22 (by decide) ?_
  refine w_iaddn f157_23 (by omega) ?_
  refine w_iloadn f157_24 rfl ?_
  refine w_iast f157_25 (by assumption) (by omega) ?_
  refine w_aloadn f157_26 rfl (by omega) ?_
  refine w_getR f157_27 (by assumption) rfl (by omega) ?_
  refine w_iload f157_30 rfl ?_
  refine w_iconst (v := 4) f157_32 (by decide) ?_
  refine w_iaddn f157_33 (by omega) ?_
  refine w_iloadn f157_34 rfl ?_
  refine w_iast f157_35 (by assumption) (by omega) ?_
  refine w_aloadn f157_36 rfl (by omega) ?_
  refine w_getR f157_37 (by assumption) rfl (by omega) ?_
  refine w_iload f157_40 rfl ?_
  refine w_iconst (v := 5) f157_42 (by decide) ?_
  refine w_iaddn f157_43 (by omega) ?_
  refine w_iloadn f157_44 rfl ?_
  refine w_iast f157_45 (by assumption) (by omega) ?_
  refine w_ret f157_46 rfl ?_
  exact ⟨_, hP.putW.putW.putW, rfl⟩
def acsW (w : Nat → Int) (x y z : Int) : Nat → Int := udI (udI (udI w (93 + 9 * (w 3 - 1) + 6).toNat x) (93 + 9 * (w 3 - 1) + 7).toNat y) (93 + 9 * (w 3 - 1) + 8).toNat z
theorem s158 {h0 : Nat → Nat → Int} {s : PS} {x y z : Int} (hP : PX h0 b n s h) (h3 : 1 ≤ s.1 3 ∧ s.1 3 ≤ 24) : Rn (ev 158 0 [AR 268, AI x, AI y, AI z, AU] [] (KS r d, h, R)) (fun o => ∃ h1, PX h0 b n (acsW s.1 x y z, s.2.1, s.2.2) h1 ∧ o = (.inl AU, (KS r d, h1, R))) := by
  have k0 := @kd_268 r d
  have k1 := @kd_269 r d
  have a3 : h 269 3 = s.1 3 := congrFun hP.2.2.2.1 3
  refine w_bipush (v := 93) f158_0 (by decide) ?_
  refine w_bipush (v := 9) f158_2 (by decide) ?_
  refine w_aloadn f158_4 rfl (by omega) ?_
  refine w_getR f158_5 (by assumption) rfl (by omega) ?_
  refine w_iconst (v := 3) f158_8 (by decide) ?_
  refine w_iald f158_9 (by assumption) (by omega) (by (try simp only [hput, hcopy, Nat.reduceEqDiff, Nat.add_left_cancel_iff, Nat.add_right_cancel_iff, Nat.left_eq_add, Nat.add_eq_left, Nat.right_eq_add, Nat.add_eq_right, Nat.reduceAdd, Nat.add_zero, Nat.succ_ne_self, Nat.one_ne_zero, Nat.zero_ne_one, eq_self, and_self, and_true, true_and, and_false, false_and, if_true, if_false, reduceIte, Int.reduceToNat, Int.toNat_natCast, a3]); exact rfl) ?_
  refine w_iconst (v := 1) f158_10 (by decide) ?_
  refine w_isubn f158_11 (by omega) ?_
  refine w_imuln f158_12 (by omega) ?_
  refine w_iaddn f158_13 (by omega) ?_
  refine w_istore f158_14 (Nat.le_of_ble_eq_true rfl) (sto_5_4 rfl) ?_
  refine w_aloadn f158_16 rfl (by omega) ?_
  refine w_getR f158_17 (by assumption) rfl (by omega) ?_
  refine w_iload f158_20 rfl ?_
  refine w_bipush (v := 6) f158_22 (by decide) ?_
  refine w_iaddn f158_24 (by omega) ?_
  refine w_iloadn f158_25 rfl ?_
  refine w_iast f158_26 (by assumption) (by omega) ?_
  refine w_aloadn f158_27 rfl (by omega) ?_
  refine w_getR f158_28 (by assumption) rfl (by omega) ?_
  refine w_iload f158_31 rfl ?_
  refine w_bipush (v := 7) f158_33 (by decide) ?_
  refine w_iaddn f158_35 (by omega) ?_
  refine w_iloadn f158_36 rfl ?_
  refine w_iast f158_37 (by assumption) (by omega) ?_
  refine w_aloadn f158_38 rfl (by omega) ?_
  refine w_getR f158_39 (by assumption) rfl (by omega) ?_
  refine w_iload f158_42 rfl ?_
  refine w_bipush (v := 8) f158_44 (by decide) ?_
  refine w_iaddn f158_46 (by omega) ?_
  refine w_iloadn f158_47 rfl ?_
  refine w_iast f158_48 (by assumption) (by omega) ?_
  refine w_ret f158_49 rfl ?_
  exact ⟨_, hP.putW.putW.putW, rfl⟩
theorem s159p {h0 : Nat → Nat → Int} {s : PS} {x y z v : Int} (hP : PX h0 b n s h) (h4 : 0 ≤ s.1 4 ∧ s.1 4 ≤ 11) : Rn (ev 159 0 [AR 268, AI x, AI y, AI z, AI v, AU] [] (KS r d, h, R)) (fun o => ∃ h1, PX h0 b n (keepW s.1 x y z v, s.2.1, s.2.2) h1 ∧ o = (.inl (AI (s.1 4)), (KS r d, h1, R))) := by
  have k0 := @kd_268 r d
  have k1 := @kd_269 r d
  have e4 : h 269 4 = s.1 4 := congrFun hP.2.2.2.1 4
  refine w_sipush (v := 309) f159_0 (by decide) ?_
  refine w_iconst (v := 4) f159_3 (by decide) ?_
  refine w_aloadn f159_4 rfl (by omega) ?_
  refine w_getR f159_5 (by assumption) rfl (by omega) ?_
  refine w_iconst (v := 4) f159_8 (by decide) ?_
  refine w_iald f159_9 (by assumption) (by omega) (by exact e4) ?_
  refine w_imuln f159_10 (by omega) ?_
  refine w_iaddn f159_11 (by omega) ?_
  refine w_istore f159_12 (Nat.le_of_ble_eq_true rfl) (sto_6_5 rfl) ?_
  refine w_aloadn f159_14 rfl (by omega) ?_
  refine w_getR f159_15 (by assumption) rfl (by omega) ?_
  refine w_iload f159_18 rfl ?_
  refine w_iconst (v := 0) f159_20 (by decide) ?_
  refine w_iaddn f159_21 (by omega) ?_
  refine w_iloadn f159_22 rfl ?_
  refine w_iast f159_23 (by assumption) (by omega) ?_
  refine w_aloadn f159_24 rfl (by omega) ?_
  refine w_getR f159_25 (by assumption) rfl (by omega) ?_
  refine w_iload f159_28 rfl ?_
  refine w_iconst (v := 1) f159_30 (by decide) ?_
  refine w_iaddn f159_31 (by omega) ?_
  refine w_iloadn f159_32 rfl ?_
  refine w_iast f159_33 (by assumption) (by omega) ?_
  refine w_aloadn f159_34 rfl (by omega) ?_
  refine w_getR f159_35 (by assumption) rfl (by omega) ?_
  refine w_iload f159_38 rfl ?_
  refine w_iconst (v := 2) f159_40 (by decide) ?_
  refine w_iaddn f159_41 (by omega) ?_
  refine w_iloadn f159_42 rfl ?_
  refine w_iast f159_43 (by assumption) (by omega) ?_
  refine w_aloadn f159_44 rfl (by omega) ?_
  refine w_getR f159_45 (by assumption) rfl (by omega) ?_
  refine w_iload f159_48 rfl ?_
  refine w_iconst (v := 3) f159_50 (by decide) ?_
  refine w_iaddn f159_51 (by omega) ?_
  refine w_iload f159_52 rfl ?_
  refine w_iast f159_54 (by assumption) (by omega) ?_
  refine w_aloadn f159_55 rfl (by omega) ?_
  refine w_getR f159_56 (by assumption) rfl (by omega) ?_
  refine w_iconst (v := 4) f159_59 (by decide) ?_
  refine w_dup2 f159_60 rfl ?_
  refine w_iald f159_61 (by assumption) (by omega) (by exact (hput_j (by show (4 : Nat) ≠ _; omega)).trans ((hput_j (by show (4 : Nat) ≠ _; omega)).trans ((hput_j (by show (4 : Nat) ≠ _; omega)).trans ((hput_j (by show (4 : Nat) ≠ _; omega)).trans e4)))) ?_
  refine w_iconst (v := 1) f159_62 (by decide) ?_
  refine w_iaddn f159_63 (by omega) ?_
  refine w_iast f159_64 (by assumption) (by omega) ?_
  refine w_aloadn f159_65 rfl (by omega) ?_
  refine w_getR f159_66 (by assumption) rfl (by omega) ?_
  refine w_iconst (v := 4) f159_69 (by decide) ?_
  refine w_iald f159_70 (by assumption) (by omega) (by exact hput_s) ?_
  refine w_iconst (v := 1) f159_71 (by decide) ?_
  refine w_isubn f159_72 (by omega) ?_
  refine w_iret f159_73 rfl ?_
  exact ⟨_, hP.putW.putW.putW.putW.putW, by rw [show s.1 4 + 1 - 1 = s.1 4 by omega]; rfl⟩
def mWb (b : Nat → Int) (n : Int) (p : Bool) (s : PS) : PM := if p = true then .inr (adv b n s) else err 1 s
theorem mWrd_b {p : Bool} {s : PS} : mWrd b n (b2i (p = true)) s = mWb b n p s := by
  unfold mWrd mWb
  cases p with
  | true => rw [b2i_t rfl]; rfl
  | false => rw [b2i_f (by decide)]; rfl
theorem mKn_w {k f c : Int} {s s1 : PS} (hm : mKn b n k f c s = .inr s1) : s1.1 = s.1 := by
  unfold mKn at hm
  split at hm
  · cases hm
  · split at hm
    · cases hm
    · cases hm; rfl
theorem mWrd_w {x : Int} {s s1 : PS} (hm : mWrd b n x s = .inr s1) : s1.1 = s.1 := by
  unfold mWrd at hm
  split at hm
  · cases hm
  · cases hm; rfl
theorem mThr_w {k g : Int} {s s1 : PS} (hm : mThr b n k g s = .inr s1) : s1.1 = s.1 := by
  unfold mThr at hm
  cases h1 : mKn b n k 483 2 s with
  | inl e => rw [h1] at hm; cases hm
  | inr s2 =>
    rw [h1] at hm
    simp only [pb] at hm
    cases h2 : mWrd b n (if opx b g s2.2.1 = -1 then 0 else 1) (setN s2 (k + 1) (opx b g s2.2.1)) with
    | inl e => rw [h2] at hm; cases hm
    | inr s3 =>
      rw [h2] at hm
      have h4 := mWrd_w h2
      have h5 : s2.1 = s.1 := mKn_w h1
      exact (mNum_w hm).trans (h4.trans h5)
def mDo (b : Nat → Int) (n : Int) (s : PS) : PM := pb (if isW b s.2.1 tx_do = true then pb (mThr b n 6 0 (adv b n s)) (fun s => .inr (acsW s.1 (s.2.2 6) (s.2.2 7) (s.2.2 8), s.2.1, s.2.2)) else .inr s) (fun s => mSem b n s)
def mWh (b : Nat → Int) (n : Int) (s : PS) : PM := pb (if isW b s.2.1 tx_when = true then pb (mThr b n 3 1 (adv b n s)) (fun s => .inr (gdW s.1 (s.2.2 3) (s.2.2 4) (s.2.2 5), s.2.1, s.2.2)) else .inr s) (fun s => mDo b n s)
def mTrs (b : Nat → Int) (n : Int) (s : PS) : PM := if s.1 3 = 24 then err 5 s else
  pb (mKn b n 0 357 0 (adv b n s)) (fun s => pb (mKn b n 1 427 1 s) (fun s => pb (mWb b n (isW b s.2.1 tx_goto) s) (fun s => pb (mKn b n 2 357 0 s) (fun s => mWh b n (ldW s.1 (s.2.2 0) (s.2.2 1) (s.2.2 2), s.2.1, s.2.2)))))
theorem l209c {h0 : Nat → Nat → Int} {s : PS} (hP : PX h0 b n s h) : Rn (ev 209 195 [AR 268] [] (KS r d, h, R)) (PB r d R h0 b n (mSem b n s)) := by
  have k0 := @kd_268 r d
  refine w_aloadn f209_195 rfl (by omega) ?_
  refine w_qV f209_196 (Or.inl rfl) rfl (by omega) (okd_of (by assumption)) rfl ⟨Nat.le_of_ble_eq_true rfl, rfl, Nat.le_of_ble_eq_true rfl⟩ (en197 _) (s197 hP) (fun o9 ho9 => ?_)
  rcases pb_cases ho9 with ⟨e2, m2, h2, q2, rfl⟩ | ⟨s2, m2, h2, q2, rfl⟩
  · refine w_bok (pv197 _ _) ?_
    refine w_zret f209_199 rfl (by decide) ?_
    first | exact PB.f m2 q2 | exact PB.t m2 q2
  · refine w_bok (pv197 _ _) ?_
    refine w_zret f209_199 rfl (by decide) ?_
    first | exact PB.f m2 q2 | exact PB.t m2 q2
theorem l209b {h0 : Nat → Nat → Int} {s : PS} (hP : PX h0 b n s h) (hV : 0 ≤ s.1 2 ∧ s.1 2 ≤ 3) (h3 : 1 ≤ s.1 3 ∧ s.1 3 ≤ 24) : Rn (ev 209 144 [AR 268] [] (KS r d, h, R)) (PB r d R h0 b n (mDo b n s)) := by
  have k0 := @kd_268 r d
  have k1 := @kd_276 r d
  refine w_aloadn f209_144 rfl (by omega) ?_
  refine w_ldcw f209_145 ?_
  refine w_cV f209_148 (Or.inl rfl) rfl (by omega) (okd_of (by assumption)) rfl ⟨Nat.le_of_ble_eq_true rfl, rfl, Nat.le_of_ble_eq_true rfl⟩ (en194 _ _) (s194l (t := 41) (l := tx_do) hP (by decide) rfl) (pv194 _ _) ?_
  refine w_ifb_eq (t := 195) f209_151 (by decide) (fun c1 => ?_) (fun c1 => ?_)
  · first | (refine (l209c hP).mono (fun o9 ho9 => PB.ex ?_ ho9); unfold mDo; rw [if_neg c1]; rfl; done) | (refine (l209c q3).mono (fun o9 ho9 => PB.ex ?_ ho9); unfold mDo; rw [if_pos c1, m2]; rfl; done)
  · refine w_aloadn f209_154 rfl (by omega) ?_
    refine w_qV f209_155 (Or.inl rfl) rfl (by omega) (okd_of (by assumption)) rfl ⟨Nat.le_of_ble_eq_true rfl, rfl, Nat.le_of_ble_eq_true rfl⟩ (en192 _) (hP.adv) (fun o9 ho9 => ?_)
    obtain ⟨h1, q1, rfl⟩ := ho9
    refine w_bok (pv192 _ _) ?_
    refine w_aloadn f209_158 rfl (by omega) ?_
    refine w_bipush (v := 6) f209_159 (by decide) ?_
    refine w_iconst (v := 0) f209_161 (by decide) ?_
    refine w_qV f209_162 (Or.inl rfl) rfl (by omega) (okd_of (by assumption)) rfl ⟨Nat.le_of_ble_eq_true rfl, rfl, Nat.le_of_ble_eq_true rfl⟩ (en206 _ _ _) (s206 q1 (by decide) hV) (fun o9 ho9 => ?_)
    rcases pb_cases ho9 with ⟨e2, m2, h2, q2, rfl⟩ | ⟨s2, m2, h2, q2, rfl⟩
    · refine w_bok (pv206 _ _) ?_
      refine w_if_ne (t := 170) f209_165 (by decide) (fun e9 => absurd e9 (by decide)) (fun _ => ?_)
      refine w_iconst (v := 0) f209_168 (by decide) ?_
      refine w_zret f209_169 rfl (by decide) ?_
      first | (refine PB.f ?_ q2; unfold mDo; rw [if_pos c1, m2]; rfl; done)
    · refine w_bok (pv206 _ _) ?_
      have a24 := q2.2.2.2.2.1
      have w2 := mThr_w m2
      have e3 : s2.1 3 = s.1 3 := by rw [w2]; rfl
      refine w_if_ne (t := 170) f209_165 (by decide) (fun _ => ?_) (fun e9 => absurd e9 (by decide))
      refine w_aloadn f209_170 rfl (by omega) ?_
      refine w_aloadn f209_171 rfl (by omega) ?_
      refine w_getR f209_172 (by assumption) rfl (by omega) ?_
      refine w_bipush (v := 6) f209_175 (by decide) ?_
      refine w_iald f209_177 (by assumption) (by omega) (by exact congrFun a24 6) ?_
      refine w_aloadn f209_178 rfl (by omega) ?_
      refine w_getR f209_179 (by assumption) rfl (by omega) ?_
      refine w_bipush (v := 7) f209_182 (by decide) ?_
      refine w_iald f209_184 (by assumption) (by omega) (by exact congrFun a24 7) ?_
      refine w_aloadn f209_185 rfl (by omega) ?_
      refine w_getR f209_186 (by assumption) rfl (by omega) ?_
      refine w_bipush (v := 8) f209_189 (by decide) ?_
      refine w_iald f209_191 (by assumption) (by omega) (by exact congrFun a24 8) ?_
      refine w_qV f209_192 (Or.inl rfl) rfl (by omega) (okd_of (by assumption)) rfl ⟨Nat.le_of_ble_eq_true rfl, rfl, Nat.le_of_ble_eq_true rfl⟩ (en158 _ _ _ _) (s158 q2 (by omega)) (fun o9 ho9 => ?_)
      obtain ⟨h3, q3, rfl⟩ := ho9
      refine w_bok (pv158 _ _) ?_
      first | (refine (l209c hP).mono (fun o9 ho9 => PB.ex ?_ ho9); unfold mDo; rw [if_neg c1]; rfl; done) | (refine (l209c q3).mono (fun o9 ho9 => PB.ex ?_ ho9); unfold mDo; rw [if_pos c1, m2]; rfl; done)
theorem l209a {h0 : Nat → Nat → Int} {s : PS} (hP : PX h0 b n s h) (hV : 0 ≤ s.1 2 ∧ s.1 2 ≤ 3) (h3 : 1 ≤ s.1 3 ∧ s.1 3 ≤ 24) : Rn (ev 209 97 [AR 268] [] (KS r d, h, R)) (PB r d R h0 b n (mWh b n s)) := by
  have k0 := @kd_268 r d
  have k1 := @kd_276 r d
  refine w_aloadn f209_97 rfl (by omega) ?_
  refine w_ldcw f209_98 ?_
  refine w_cV f209_101 (Or.inl rfl) rfl (by omega) (okd_of (by assumption)) rfl ⟨Nat.le_of_ble_eq_true rfl, rfl, Nat.le_of_ble_eq_true rfl⟩ (en194 _ _) (s194l (t := 40) (l := tx_when) hP (by decide) rfl) (pv194 _ _) ?_
  refine w_ifb_eq (t := 144) f209_104 (by decide) (fun c1 => ?_) (fun c1 => ?_)
  · first | (refine (l209b hP hV h3).mono (fun o9 ho9 => PB.ex ?_ ho9); unfold mWh; rw [if_neg c1]; rfl; done) | (have g3 : gdW s2.1 (s2.2.2 3) (s2.2.2 4) (s2.2.2 5) 3 = s2.1 3 := (by unfold gdW udI; rw [if_neg (by omega), if_neg (by omega), if_neg (by omega)]); have g2 : gdW s2.1 (s2.2.2 3) (s2.2.2 4) (s2.2.2 5) 2 = s2.1 2 := (by unfold gdW udI; rw [if_neg (by omega), if_neg (by omega), if_neg (by omega)]); refine (l209b q3 (by show 0 ≤ gdW _ _ _ _ 2 ∧ gdW _ _ _ _ 2 ≤ 3; rw [g2]; omega) (by show 1 ≤ gdW _ _ _ _ 3 ∧ gdW _ _ _ _ 3 ≤ 24; rw [g3]; omega)).mono (fun o9 ho9 => PB.ex ?_ ho9); unfold mWh; rw [if_pos c1, m2]; rfl; done)
  · refine w_aloadn f209_107 rfl (by omega) ?_
    refine w_qV f209_108 (Or.inl rfl) rfl (by omega) (okd_of (by assumption)) rfl ⟨Nat.le_of_ble_eq_true rfl, rfl, Nat.le_of_ble_eq_true rfl⟩ (en192 _) (hP.adv) (fun o9 ho9 => ?_)
    obtain ⟨h1, q1, rfl⟩ := ho9
    refine w_bok (pv192 _ _) ?_
    refine w_aloadn f209_111 rfl (by omega) ?_
    refine w_iconst (v := 3) f209_112 (by decide) ?_
    refine w_iconst (v := 1) f209_113 (by decide) ?_
    refine w_qV f209_114 (Or.inl rfl) rfl (by omega) (okd_of (by assumption)) rfl ⟨Nat.le_of_ble_eq_true rfl, rfl, Nat.le_of_ble_eq_true rfl⟩ (en206 _ _ _) (s206 q1 (by decide) hV) (fun o9 ho9 => ?_)
    rcases pb_cases ho9 with ⟨e2, m2, h2, q2, rfl⟩ | ⟨s2, m2, h2, q2, rfl⟩
    · refine w_bok (pv206 _ _) ?_
      refine w_if_ne (t := 122) f209_117 (by decide) (fun e9 => absurd e9 (by decide)) (fun _ => ?_)
      refine w_iconst (v := 0) f209_120 (by decide) ?_
      refine w_zret f209_121 rfl (by decide) ?_
      first | (refine PB.f ?_ q2; unfold mWh; rw [if_pos c1, m2]; rfl; done)
    · refine w_bok (pv206 _ _) ?_
      have a24 := q2.2.2.2.2.1
      have w2 := mThr_w m2
      have e3 : s2.1 3 = s.1 3 := by rw [w2]; rfl
      have e2 : s2.1 2 = s.1 2 := by rw [w2]; rfl
      refine w_if_ne (t := 122) f209_117 (by decide) (fun _ => ?_) (fun e9 => absurd e9 (by decide))
      refine w_aloadn f209_122 rfl (by omega) ?_
      refine w_aloadn f209_123 rfl (by omega) ?_
      refine w_getR f209_124 (by assumption) rfl (by omega) ?_
      refine w_iconst (v := 3) f209_127 (by decide) ?_
      refine w_iald f209_128 (by assumption) (by omega) (by exact congrFun a24 3) ?_
      refine w_aloadn f209_129 rfl (by omega) ?_
      refine w_getR f209_130 (by assumption) rfl (by omega) ?_
      refine w_iconst (v := 4) f209_133 (by decide) ?_
      refine w_iald f209_134 (by assumption) (by omega) (by exact congrFun a24 4) ?_
      refine w_aloadn f209_135 rfl (by omega) ?_
      refine w_getR f209_136 (by assumption) rfl (by omega) ?_
      refine w_iconst (v := 5) f209_139 (by decide) ?_
      refine w_iald f209_140 (by assumption) (by omega) (by exact congrFun a24 5) ?_
      refine w_qV f209_141 (Or.inl rfl) rfl (by omega) (okd_of (by assumption)) rfl ⟨Nat.le_of_ble_eq_true rfl, rfl, Nat.le_of_ble_eq_true rfl⟩ (en157 _ _ _ _) (s157 q2 (by omega)) (fun o9 ho9 => ?_)
      obtain ⟨h3, q3, rfl⟩ := ho9
      refine w_bok (pv157 _ _) ?_
      first | (refine (l209b hP hV h3).mono (fun o9 ho9 => PB.ex ?_ ho9); unfold mWh; rw [if_neg c1]; rfl; done) | (have g3 : gdW s2.1 (s2.2.2 3) (s2.2.2 4) (s2.2.2 5) 3 = s2.1 3 := (by unfold gdW udI; rw [if_neg (by omega), if_neg (by omega), if_neg (by omega)]); have g2 : gdW s2.1 (s2.2.2 3) (s2.2.2 4) (s2.2.2 5) 2 = s2.1 2 := (by unfold gdW udI; rw [if_neg (by omega), if_neg (by omega), if_neg (by omega)]); refine (l209b q3 (by show 0 ≤ gdW _ _ _ _ 2 ∧ gdW _ _ _ _ 2 ≤ 3; rw [g2]; omega) (by show 1 ≤ gdW _ _ _ _ 3 ∧ gdW _ _ _ _ 3 ≤ 24; rw [g3]; omega)).mono (fun o9 ho9 => PB.ex ?_ ho9); unfold mWh; rw [if_pos c1, m2]; rfl; done)
end A

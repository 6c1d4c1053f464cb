/-! the reference's reading: statements -/
section A
variable {K : List AKd} {h : Nat → Nat → Int} {R : R4} {σ : Sg} {r d : Nat} {w : Nat → Int} {b : Nat → Int} {n : Int}
theorem mWb_w {p : Bool} {s s1 : PS} (hm : mWb b n p s = .inr s1) : s1.1 = s.1 := by
  unfold mWb at hm
  split at hm
  · cases hm; rfl
  · cases hm
theorem s203b {h0 : Nat → Nat → Int} {s : PS} {p : Bool} (hP : PX h0 b n s h) : Rn (ev 203 0 [AR 268, AI (b2i (p = true))] [] (KS r d, h, R)) (PB r d R h0 b n (mWb b n p s)) := by
  rw [← mWrd_b]
  exact s203 hP
set_option maxHeartbeats 4000000 in
theorem s209 {h0 : Nat → Nat → Int} {s : PS} (hP : PX h0 b n s h) (hW : WFb s.1) : Rn (ev 209 0 [AR 268] [] (KS r d, h, R)) (PB r d R h0 b n (mTrs b n s)) := by
  have k0 := @kd_268 r d
  have k1 := @kd_269 r d
  have k2 := @kd_276 r d
  have a3 : h 269 3 = s.1 3 := congrFun hP.2.2.2.1 3
  obtain ⟨v0, v1, v2, v3, v4⟩ := id hW
  refine w_aloadn f209_0 rfl (by omega) ?_
  refine w_getR f209_1 (by assumption) rfl (by omega) ?_
  refine w_iconst (v := 3) f209_4 (by decide) ?_
  refine w_iald f209_5 (by assumption) (by omega) (by (try simp only [hput, hcopy, Nat.reduceEqDiff, Nat.add_left_cancel_iff, Nat.add_right_cancel_iff, Nat.left_eq_add, Nat.add_eq_left, Nat.right_eq_add, Nat.add_eq_right, Nat.reduceAdd, Nat.add_zero, Nat.succ_ne_self, Nat.one_ne_zero, Nat.zero_ne_one, eq_self, and_self, and_true, true_and, and_false, false_and, if_true, if_false, reduceIte, Int.reduceToNat, Int.toNat_natCast, a3]); exact rfl) ?_
  refine w_bipush (v := 24) f209_6 (by decide) ?_
  refine w_ic_ne (t := 17) f209_8 (by decide) (fun c1 => ?_) (fun c1 => ?_)
  · refine w_aloadn f209_17 rfl (by omega) ?_
    refine w_qV f209_18 (Or.inl rfl) rfl (by omega) (okd_of (by assumption)) rfl ⟨Nat.le_of_ble_eq_true rfl, rfl, Nat.le_of_ble_eq_true rfl⟩ (en192 _) (hP.adv) (fun o9 ho9 => ?_)
    obtain ⟨h1, q1, rfl⟩ := ho9
    refine w_bok (pv192 _ _) ?_
    refine w_aloadn f209_21 rfl (by omega) ?_
    refine w_iconst (v := 0) f209_22 (by decide) ?_
    refine w_sipush (v := 357) f209_23 (by decide) ?_
    refine w_iconst (v := 0) f209_26 (by decide) ?_
    refine w_qV f209_27 (Or.inl rfl) rfl (by omega) (okd_of (by assumption)) rfl ⟨Nat.le_of_ble_eq_true rfl, rfl, Nat.le_of_ble_eq_true rfl⟩ (en202 _ _ _ _) (s202 (m := 10) q1 (by decide) (Or.inl ⟨rfl, rfl, rfl⟩) v0) (fun o9 ho9 => ?_)
    rcases pb_cases ho9 with ⟨e2, m2, h2, q2, rfl⟩ | ⟨s2, m2, h2, q2, rfl⟩
    · refine w_bok (pv202 _ _) ?_
      refine w_if_eq (t := 59) f209_30 (by decide) (fun _ => ?_) (fun e9 => absurd e9 (by decide))
      refine w_iconst (v := 0) f209_59 (by decide) ?_
      refine w_zret f209_60 rfl (by decide) ?_
      first | (refine PB.f ?_ q2; unfold mTrs; rw [if_neg c1, m2]; rfl; done) | (refine PB.f ?_ q3; unfold mTrs; rw [if_neg c1, m2]; simp only [pb]; rw [m3]; done) | (refine PB.f ?_ q4; unfold mTrs; rw [if_neg c1, m2]; simp only [pb]; rw [m3]; simp only []; rw [m4]; done) | (refine PB.f ?_ q5; unfold mTrs; rw [if_neg c1, m2]; simp only [pb]; rw [m3]; simp only []; rw [m4]; simp only []; rw [m5]; done)
    · refine w_bok (pv202 _ _) ?_
      have w2 : s2.1 = s.1 := (mKn_w m2 : s2.1 = (adv b n s).1)
      refine w_if_eq (t := 59) f209_30 (by decide) (fun e9 => absurd e9 (by decide)) (fun _ => ?_)
      refine w_aloadn f209_33 rfl (by omega) ?_
      refine w_iconst (v := 1) f209_34 (by decide) ?_
      refine w_sipush (v := 427) f209_35 (by decide) ?_
      refine w_iconst (v := 1) f209_38 (by decide) ?_
      refine w_qV f209_39 (Or.inl rfl) rfl (by omega) (okd_of (by assumption)) rfl ⟨Nat.le_of_ble_eq_true rfl, rfl, Nat.le_of_ble_eq_true rfl⟩ (en202 _ _ _ _) (s202 (m := 8) q2 (by decide) (Or.inr (Or.inl ⟨rfl, rfl, rfl⟩)) (by rw [w2]; exact v1)) (fun o9 ho9 => ?_)
      rcases pb_cases ho9 with ⟨e3, m3, h3, q3, rfl⟩ | ⟨s3, m3, h3, q3, rfl⟩
      · refine w_bok (pv202 _ _) ?_
        refine w_if_eq (t := 59) f209_42 (by decide) (fun _ => ?_) (fun e9 => absurd e9 (by decide))
        refine w_iconst (v := 0) f209_59 (by decide) ?_
        refine w_zret f209_60 rfl (by decide) ?_
        first | (refine PB.f ?_ q2; unfold mTrs; rw [if_neg c1, m2]; rfl; done) | (refine PB.f ?_ q3; unfold mTrs; rw [if_neg c1, m2]; simp only [pb]; rw [m3]; done) | (refine PB.f ?_ q4; unfold mTrs; rw [if_neg c1, m2]; simp only [pb]; rw [m3]; simp only []; rw [m4]; done) | (refine PB.f ?_ q5; unfold mTrs; rw [if_neg c1, m2]; simp only [pb]; rw [m3]; simp only []; rw [m4]; simp only []; rw [m5]; done)
      · refine w_bok (pv202 _ _) ?_
        have w3 : s3.1 = s.1 := (mKn_w m3).trans w2
        refine w_if_eq (t := 59) f209_42 (by decide) (fun e9 => absurd e9 (by decide)) (fun _ => ?_)
        refine w_aloadn f209_45 rfl (by omega) ?_
        refine w_aloadn f209_46 rfl (by omega) ?_
        refine w_ldcw f209_47 ?_
        refine w_cV f209_50 (Or.inl rfl) rfl (by omega) (okd_of (by assumption)) rfl ⟨Nat.le_of_ble_eq_true rfl, rfl, Nat.le_of_ble_eq_true rfl⟩ (en194 _ _) (s194l (t := 39) (l := tx_goto) q3 (by decide) rfl) (pv194 _ _) ?_
        refine w_qV f209_53 (Or.inl rfl) rfl (by omega) (okd_of (by assumption)) rfl ⟨Nat.le_of_ble_eq_true rfl, rfl, Nat.le_of_ble_eq_true rfl⟩ (en203 _ _) (s203b q3) (fun o9 ho9 => ?_)
        rcases pb_cases ho9 with ⟨e4, m4, h4, q4, rfl⟩ | ⟨s4, m4, h4, q4, rfl⟩
        · refine w_bok (pv203 _ _) ?_
          refine w_if_ne (t := 61) f209_56 (by decide) (fun e9 => absurd e9 (by decide)) (fun _ => ?_)
          refine w_iconst (v := 0) f209_59 (by decide) ?_
          refine w_zret f209_60 rfl (by decide) ?_
          first | (refine PB.f ?_ q2; unfold mTrs; rw [if_neg c1, m2]; rfl; done) | (refine PB.f ?_ q3; unfold mTrs; rw [if_neg c1, m2]; simp only [pb]; rw [m3]; done) | (refine PB.f ?_ q4; unfold mTrs; rw [if_neg c1, m2]; simp only [pb]; rw [m3]; simp only []; rw [m4]; done) | (refine PB.f ?_ q5; unfold mTrs; rw [if_neg c1, m2]; simp only [pb]; rw [m3]; simp only []; rw [m4]; simp only []; rw [m5]; done)
        · refine w_bok (pv203 _ _) ?_
          have w4 : s4.1 = s.1 := (mWb_w m4).trans w3
          refine w_if_ne (t := 61) f209_56 (by decide) (fun _ => ?_) (fun e9 => absurd e9 (by decide))
          refine w_aloadn f209_61 rfl (by omega) ?_
          refine w_iconst (v := 2) f209_62 (by decide) ?_
          refine w_sipush (v := 357) f209_63 (by decide) ?_
          refine w_iconst (v := 0) f209_66 (by decide) ?_
          refine w_qV f209_67 (Or.inl rfl) rfl (by omega) (okd_of (by assumption)) rfl ⟨Nat.le_of_ble_eq_true rfl, rfl, Nat.le_of_ble_eq_true rfl⟩ (en202 _ _ _ _) (s202 (m := 10) q4 (by decide) (Or.inl ⟨rfl, rfl, rfl⟩) (by rw [w4]; exact v0)) (fun o9 ho9 => ?_)
          rcases pb_cases ho9 with ⟨e5, m5, h5, q5, rfl⟩ | ⟨s5, m5, h5, q5, rfl⟩
          · refine w_bok (pv202 _ _) ?_
            refine w_if_ne (t := 75) f209_70 (by decide) (fun e9 => absurd e9 (by decide)) (fun _ => ?_)
            refine w_iconst (v := 0) f209_73 (by decide) ?_
            refine w_zret f209_74 rfl (by decide) ?_
            first | (refine PB.f ?_ q2; unfold mTrs; rw [if_neg c1, m2]; rfl; done) | (refine PB.f ?_ q3; unfold mTrs; rw [if_neg c1, m2]; simp only [pb]; rw [m3]; done) | (refine PB.f ?_ q4; unfold mTrs; rw [if_neg c1, m2]; simp only [pb]; rw [m3]; simp only []; rw [m4]; done) | (refine PB.f ?_ q5; unfold mTrs; rw [if_neg c1, m2]; simp only [pb]; rw [m3]; simp only []; rw [m4]; simp only []; rw [m5]; done)
          · refine w_bok (pv202 _ _) ?_
            have w5 : s5.1 = s.1 := (mKn_w m5).trans w4
            have a54 := q5.2.2.2.2.1
            refine w_if_ne (t := 75) f209_70 (by decide) (fun _ => ?_) (fun e9 => absurd e9 (by decide))
            refine w_aloadn f209_75 rfl (by omega) ?_
            refine w_aloadn f209_76 rfl (by omega) ?_
            refine w_getR f209_77 (by assumption) rfl (by omega) ?_
            refine w_iconst (v := 0) f209_80 (by decide) ?_
            refine w_iald f209_81 (by assumption) (by omega) (by exact congrFun a54 0) ?_
            refine w_aloadn f209_82 rfl (by omega) ?_
            refine w_getR f209_83 (by assumption) rfl (by omega) ?_
            refine w_iconst (v := 1) f209_86 (by decide) ?_
            refine w_iald f209_87 (by assumption) (by omega) (by exact congrFun a54 1) ?_
            refine w_aloadn f209_88 rfl (by omega) ?_
            refine w_getR f209_89 (by assumption) rfl (by omega) ?_
            refine w_iconst (v := 2) f209_92 (by decide) ?_
            refine w_iald f209_93 (by assumption) (by omega) (by exact congrFun a54 2) ?_
            refine w_qV f209_94 (Or.inl rfl) rfl (by omega) (okd_of (by assumption)) rfl ⟨Nat.le_of_ble_eq_true rfl, rfl, Nat.le_of_ble_eq_true rfl⟩ (en156 _ _ _ _) (s156 q5 (by rw [w5]; omega)) (fun o9 ho9 => ?_)
            obtain ⟨h6, q6, rfl⟩ := ho9
            refine w_bok (pv156 _ _) ?_
            have g3 : ldW s5.1 (s5.2.2 0) (s5.2.2 1) (s5.2.2 2) 3 = s5.1 3 + 1 := by unfold ldW udI; rw [if_pos rfl]
            have g4 : 1 ≤ ldW s5.1 (s5.2.2 0) (s5.2.2 1) (s5.2.2 2) 3 ∧ ldW s5.1 (s5.2.2 0) (s5.2.2 1) (s5.2.2 2) 3 ≤ 24 := by rw [g3, w5]; omega
            have g2 : ldW s5.1 (s5.2.2 0) (s5.2.2 1) (s5.2.2 2) 2 = s5.1 2 := by
              have : 0 ≤ s5.1 3 := by rw [w5]; omega
              unfold ldW udI
              rw [if_neg (by decide), if_neg (by omega), if_neg (by omega), if_neg (by omega), if_neg (by omega), if_neg (by omega)]
            refine (l209a q6 (by show 0 ≤ ldW _ _ _ _ 2 ∧ ldW _ _ _ _ 2 ≤ 3; rw [g2, w5]; exact v2) g4).mono (fun o9 ho9 => PB.ex ?_ ho9)
            unfold mTrs
            rw [if_neg c1, m2]
            simp only [pb]
            rw [m3]
            simp only []
            rw [m4]
            simp only []
            rw [m5]
  · refine w_aloadn f209_11 rfl (by omega) ?_
    refine w_iconst (v := 5) f209_12 (by decide) ?_
    refine w_qV f209_13 (Or.inl rfl) rfl (by omega) (okd_of (by assumption)) rfl ⟨Nat.le_of_ble_eq_true rfl, rfl, Nat.le_of_ble_eq_true rfl⟩ (en193 _ _) (s193 hP) (fun o9 ho9 => ?_)
    obtain ⟨h1, q1, rfl⟩ := ho9
    refine w_bok (pv193 _ _) ?_
    refine w_zret f209_16 rfl (by exact Or.inl rfl) ?_
    unfold mTrs
    rw [if_pos c1]
    exact ⟨h1, q1, rfl⟩
def mIv2 (b : Nat → Int) (n : Int) (s : PS) : PM := pb (mThr b n 1 1 s) (fun s => mSem b n (keepW s.1 (s.2.2 0) (s.2.2 1) (s.2.2 2) (s.2.2 3), s.2.1, s.2.2))
def mInv (b : Nat → Int) (n : Int) (g : Int) (s : PS) : PM := if s.1 4 = 12 then err 5 s else
  pb (if g = 0 then .inr (setN (adv b n s) 0 (-1)) else mKn b n 0 357 0 (setN (adv b n s) 0 (-1))) (fun s => mIv2 b n s)
theorem l210 {h0 : Nat → Nat → Int} {s : PS} {g : Int} (hP : PX h0 b n s h) (hV : 0 ≤ s.1 2 ∧ s.1 2 ≤ 3) (h4 : 0 ≤ s.1 4 ∧ s.1 4 ≤ 11) : Rn (ev 210 46 [AR 268, AI g, AU] [] (KS r d, h, R)) (PB r d R h0 b n (mIv2 b n s)) := by
  have k0 := @kd_268 r d
  have k1 := @kd_276 r d
  refine w_aloadn f210_46 rfl (by omega) ?_
  refine w_iconst (v := 1) f210_47 (by decide) ?_
  refine w_iconst (v := 1) f210_48 (by decide) ?_
  refine w_qV f210_49 (Or.inl rfl) rfl (by omega) (okd_of (by assumption)) rfl ⟨Nat.le_of_ble_eq_true rfl, rfl, Nat.le_of_ble_eq_true rfl⟩ (en206 _ _ _) (s206 hP (by decide) hV) (fun o9 ho9 => ?_)
  rcases pb_cases ho9 with ⟨e2, m2, h2, q2, rfl⟩ | ⟨s2, m2, h2, q2, rfl⟩
  · refine w_bok (pv206 _ _) ?_
    refine w_if_ne (t := 57) f210_52 (by decide) (fun e9 => absurd e9 (by decide)) (fun _ => ?_)
    refine w_iconst (v := 0) f210_55 (by decide) ?_
    refine w_zret f210_56 rfl (by decide) ?_
    first | (refine PB.f ?_ q2; unfold mIv2; rw [m2]; rfl; done) | (refine PB.f ?_ q4; unfold mIv2; rw [m2]; exact m4) | (refine PB.t ?_ q4; unfold mIv2; rw [m2]; exact m4)
  · refine w_bok (pv206 _ _) ?_
    have a24 := q2.2.2.2.2.1
    have w2 := mThr_w m2
    refine w_if_ne (t := 57) f210_52 (by decide) (fun _ => ?_) (fun e9 => absurd e9 (by decide))
    refine w_aloadn f210_57 rfl (by omega) ?_
    refine w_aloadn f210_58 rfl (by omega) ?_
    refine w_getR f210_59 (by assumption) rfl (by omega) ?_
    refine w_iconst (v := 0) f210_62 (by decide) ?_
    refine w_iald f210_63 (by assumption) (by omega) (by exact congrFun a24 0) ?_
    refine w_aloadn f210_64 rfl (by omega) ?_
    refine w_getR f210_65 (by assumption) rfl (by omega) ?_
    refine w_iconst (v := 1) f210_68 (by decide) ?_
    refine w_iald f210_69 (by assumption) (by omega) (by exact congrFun a24 1) ?_
    refine w_aloadn f210_70 rfl (by omega) ?_
    refine w_getR f210_71 (by assumption) rfl (by omega) ?_
    refine w_iconst (v := 2) f210_74 (by decide) ?_
    refine w_iald f210_75 (by assumption) (by omega) (by exact congrFun a24 2) ?_
    refine w_aloadn f210_76 rfl (by omega) ?_
    refine w_getR f210_77 (by assumption) rfl (by omega) ?_
    refine w_iconst (v := 3) f210_80 (by decide) ?_
    refine w_iald f210_81 (by assumption) (by omega) (by exact congrFun a24 3) ?_
    refine w_qV f210_82 (Or.inl rfl) rfl (by omega) (okd_of (by assumption)) rfl ⟨Nat.le_of_ble_eq_true rfl, rfl, Nat.le_of_ble_eq_true rfl⟩ (en159 _ _ _ _ _) (s159p q2 (by rw [w2]; exact h4)) (fun o9 ho9 => ?_)
    obtain ⟨h3, q3, rfl⟩ := ho9
    refine w_bok (pv159 _ _) ?_
    refine w_istoren f210_85 (Nat.le_of_ble_eq_true rfl) (sto_3_2 rfl) ?_
    refine w_aloadn f210_86 rfl (by omega) ?_
    refine w_qV f210_87 (Or.inl rfl) rfl (by omega) (okd_of (by assumption)) rfl ⟨Nat.le_of_ble_eq_true rfl, rfl, Nat.le_of_ble_eq_true rfl⟩ (en197 _) (s197 q3) (fun o9 ho9 => ?_)
    rcases pb_cases ho9 with ⟨e4, m4, h4, q4, rfl⟩ | ⟨s4, m4, h4, q4, rfl⟩
    · refine w_bok (pv197 _ _) ?_
      refine w_zret f210_90 rfl (by decide) ?_
      first | (refine PB.f ?_ q2; unfold mIv2; rw [m2]; rfl; done) | (refine PB.f ?_ q4; unfold mIv2; rw [m2]; exact m4) | (refine PB.t ?_ q4; unfold mIv2; rw [m2]; exact m4)
    · refine w_bok (pv197 _ _) ?_
      refine w_zret f210_90 rfl (by decide) ?_
      first | (refine PB.f ?_ q2; unfold mIv2; rw [m2]; rfl; done) | (refine PB.f ?_ q4; unfold mIv2; rw [m2]; exact m4) | (refine PB.t ?_ q4; unfold mIv2; rw [m2]; exact m4)
theorem s210 {h0 : Nat → Nat → Int} {s : PS} {g : Int} (hP : PX h0 b n s h) (hW : WFb s.1) : Rn (ev 210 0 [AR 268, AI g, AU] [] (KS r d, h, R)) (PB r d R h0 b n (mInv b n g s)) := by
  have k0 := @kd_268 r d
  have k1 := @kd_269 r d
  have k2 := @kd_276 r d
  have a4 : h 269 4 = s.1 4 := congrFun hP.2.2.2.1 4
  obtain ⟨v0, v1, v2, v3, v4⟩ := id hW
  refine w_aloadn f210_0 rfl (by omega) ?_
  refine w_getR f210_1 (by assumption) rfl (by omega) ?_
  refine w_iconst (v := 4) f210_4 (by decide) ?_
  refine w_iald f210_5 (by assumption) (by omega) (by (try simp only [hput, hcopy, Nat.reduceEqDiff, Nat.add_left_cancel_iff, Nat.add_right_cancel_iff, Nat.left_eq_add, Nat.add_eq_left, Nat.right_eq_add, Nat.add_eq_right, Nat.reduceAdd, Nat.add_zero, Nat.succ_ne_self, Nat.one_ne_zero, Nat.zero_ne_one, eq_self, and_self, and_true, true_and, and_false, false_and, if_true, if_false, reduceIte, Int.reduceToNat, Int.toNat_natCast, a4]); exact rfl) ?_
  refine w_bipush (v := 12) f210_6 (by decide) ?_
  refine w_ic_ne (t := 17) f210_8 (by decide) (fun c1 => ?_) (fun c1 => ?_)
  · refine w_aloadn f210_17 rfl (by omega) ?_
    refine w_qV f210_18 (Or.inl rfl) rfl (by omega) (okd_of (by assumption)) rfl ⟨Nat.le_of_ble_eq_true rfl, rfl, Nat.le_of_ble_eq_true rfl⟩ (en192 _) (hP.adv) (fun o9 ho9 => ?_)
    obtain ⟨h1, q1, rfl⟩ := ho9
    refine w_bok (pv192 _ _) ?_
    refine w_aloadn f210_21 rfl (by omega) ?_
    refine w_getR f210_22 (by assumption) rfl (by omega) ?_
    refine w_iconst (v := 0) f210_25 (by decide) ?_
    refine w_iconst (v := -1) f210_26 (by decide) ?_
    refine w_iast f210_27 (by assumption) (by omega) ?_
    have q2 := q1.putN (k := 0) (v := -1)
    refine w_iloadn f210_28 rfl ?_
    refine w_if_eq (t := 46) f210_29 (by decide) (fun c2 => ?_) (fun c2 => ?_)
    · first | (refine (l210 q3 (by rw [w3]; exact v2) (by rw [w3]; omega)).mono (fun o9 ho9 => PB.ex ?_ ho9); unfold mInv; rw [if_neg c1, if_neg (show ¬ g = 0 by assumption), m3]; rfl; done) | (refine (l210 q2 v2 (by show 0 ≤ s.1 4 ∧ s.1 4 ≤ 11; omega)).mono (fun o9 ho9 => PB.ex ?_ ho9); unfold mInv; rw [if_neg c1, if_pos (show g = 0 by assumption)]; rfl; done)
    · refine w_aloadn f210_32 rfl (by omega) ?_
      refine w_iconst (v := 0) f210_33 (by decide) ?_
      refine w_sipush (v := 357) f210_34 (by decide) ?_
      refine w_iconst (v := 0) f210_37 (by decide) ?_
      refine w_qV f210_38 (Or.inl rfl) rfl (by omega) (okd_of (by assumption)) rfl ⟨Nat.le_of_ble_eq_true rfl, rfl, Nat.le_of_ble_eq_true rfl⟩ (en202 _ _ _ _) (s202 (m := 10) q2 (by decide) (Or.inl ⟨rfl, rfl, rfl⟩) v0) (fun o9 ho9 => ?_)
      rcases pb_cases ho9 with ⟨e3, m3, h3, q3, rfl⟩ | ⟨s3, m3, h3, q3, rfl⟩
      · refine w_bok (pv202 _ _) ?_
        refine w_if_ne (t := 46) f210_41 (by decide) (fun e9 => absurd e9 (by decide)) (fun _ => ?_)
        refine w_iconst (v := 0) f210_44 (by decide) ?_
        refine w_zret f210_45 rfl (by decide) ?_
        refine PB.f ?_ q3; unfold mInv; rw [if_neg c1, if_neg (by assumption), m3]; rfl
      · refine w_bok (pv202 _ _) ?_
        have w3 : s3.1 = s.1 := (mKn_w m3 : s3.1 = (setN (adv b n s) 0 (-1)).1)
        refine w_if_ne (t := 46) f210_41 (by decide) (fun _ => ?_) (fun e9 => absurd e9 (by decide))
        first | (refine (l210 q3 (by rw [w3]; exact v2) (by rw [w3]; omega)).mono (fun o9 ho9 => PB.ex ?_ ho9); unfold mInv; rw [if_neg c1, if_neg (show ¬ g = 0 by assumption), m3]; rfl; done) | (refine (l210 q2 v2 (by show 0 ≤ s.1 4 ∧ s.1 4 ≤ 11; omega)).mono (fun o9 ho9 => PB.ex ?_ ho9); unfold mInv; rw [if_neg c1, if_pos (show g = 0 by assumption)]; rfl; done)
  · refine w_aloadn f210_11 rfl (by omega) ?_
    refine w_iconst (v := 5) f210_12 (by decide) ?_
    refine w_qV f210_13 (Or.inl rfl) rfl (by omega) (okd_of (by assumption)) rfl ⟨Nat.le_of_ble_eq_true rfl, rfl, Nat.le_of_ble_eq_true rfl⟩ (en193 _ _) (s193 hP) (fun o9 ho9 => ?_)
    obtain ⟨h1, q1, rfl⟩ := ho9
    refine w_bok (pv193 _ _) ?_
    refine w_zret f210_16 rfl (by exact Or.inl rfl) ?_
    unfold mInv
    rw [if_pos c1]
    exact ⟨h1, q1, rfl⟩
def mStm (b : Nat → Int) (n : Int) (s : PS) : PM :=
  if isW b s.2.1 tx_state = true then mNmd b n 357 0 10 s else if isW b s.2.1 tx_event = true then mNmd b n 427 1 8 s else if isW b s.2.1 tx_var = true then mNmd b n 483 2 3 s
  else if isW b s.2.1 tx_on = true then mTrs b n s else if isW b s.2.1 tx_always = true then mInv b n 0 s else if isW b s.2.1 tx_inside = true then mInv b n 1 s else err 1 s
theorem s211 {h0 : Nat → Nat → Int} {s : PS} (hP : PX h0 b n s h) (hW : WFb s.1) : Rn (ev 211 0 [AR 268] [] (KS r d, h, R)) (PB r d R h0 b n (mStm b n s)) := by
  have k0 := @kd_268 r d
  refine w_aloadn f211_0 rfl (by omega) ?_
  refine w_ldcw f211_1 ?_
  refine w_cV f211_4 (Or.inl rfl) rfl (by omega) (okd_of (by assumption)) rfl ⟨Nat.le_of_ble_eq_true rfl, rfl, Nat.le_of_ble_eq_true rfl⟩ (en194 _ _) (s194l (t := 42) (l := tx_state) hP (by decide) rfl) (pv194 _ _) ?_
  refine w_ifb_eq (t := 21) f211_7 (by decide) (fun c1 => ?_) (fun c1 => ?_)
  · refine w_aloadn f211_21 rfl (by omega) ?_
    refine w_ldcw f211_22 ?_
    refine w_cV f211_25 (Or.inl rfl) rfl (by omega) (okd_of (by assumption)) rfl ⟨Nat.le_of_ble_eq_true rfl, rfl, Nat.le_of_ble_eq_true rfl⟩ (en194 _ _) (s194l (t := 43) (l := tx_event) hP (by decide) rfl) (pv194 _ _) ?_
    refine w_ifb_eq (t := 42) f211_28 (by decide) (fun c2 => ?_) (fun c2 => ?_)
    · refine w_aloadn f211_42 rfl (by omega) ?_
      refine w_ldcw f211_43 ?_
      refine w_cV f211_46 (Or.inl rfl) rfl (by omega) (okd_of (by assumption)) rfl ⟨Nat.le_of_ble_eq_true rfl, rfl, Nat.le_of_ble_eq_true rfl⟩ (en194 _ _) (s194l (t := 44) (l := tx_var) hP (by decide) rfl) (pv194 _ _) ?_
      refine w_ifb_eq (t := 62) f211_49 (by decide) (fun c3 => ?_) (fun c3 => ?_)
      · refine w_aloadn f211_62 rfl (by omega) ?_
        refine w_ldcw f211_63 ?_
        refine w_cV f211_66 (Or.inl rfl) rfl (by omega) (okd_of (by assumption)) rfl ⟨Nat.le_of_ble_eq_true rfl, rfl, Nat.le_of_ble_eq_true rfl⟩ (en194 _ _) (s194l (t := 45) (l := tx_on) hP (by decide) rfl) (pv194 _ _) ?_
        refine w_ifb_eq (t := 77) f211_69 (by decide) (fun c4 => ?_) (fun c4 => ?_)
        · refine w_aloadn f211_77 rfl (by omega) ?_
          refine w_ldcw f211_78 ?_
          refine w_cV f211_81 (Or.inl rfl) rfl (by omega) (okd_of (by assumption)) rfl ⟨Nat.le_of_ble_eq_true rfl, rfl, Nat.le_of_ble_eq_true rfl⟩ (en194 _ _) (s194l (t := 46) (l := tx_always) hP (by decide) rfl) (pv194 _ _) ?_
          refine w_ifb_eq (t := 93) f211_84 (by decide) (fun c5 => ?_) (fun c5 => ?_)
          · refine w_aloadn f211_93 rfl (by omega) ?_
            refine w_ldcw f211_94 ?_
            refine w_cV f211_97 (Or.inl rfl) rfl (by omega) (okd_of (by assumption)) rfl ⟨Nat.le_of_ble_eq_true rfl, rfl, Nat.le_of_ble_eq_true rfl⟩ (en194 _ _) (s194l (t := 47) (l := tx_inside) hP (by decide) rfl) (pv194 _ _) ?_
            refine w_ifb_eq (t := 111) f211_100 (by decide) (fun c6 => ?_) (fun c6 => ?_)
            · refine w_aloadn f211_111 rfl (by omega) ?_
              refine w_iconst (v := 1) f211_112 (by decide) ?_
              refine w_qV f211_113 (Or.inl rfl) rfl (by omega) (okd_of (by assumption)) rfl ⟨Nat.le_of_ble_eq_true rfl, rfl, Nat.le_of_ble_eq_true rfl⟩ (en193 _ _) (s193 hP) (fun o9 ho9 => ?_)
              obtain ⟨h2, q2, rfl⟩ := ho9
              refine w_bok (pv193 _ _) ?_
              refine w_zret f211_116 rfl (by exact Or.inl rfl) ?_
              first | (refine PB.f ?_ q2; simp only [mStm, *, if_true, if_false, reduceIte, Bool.false_eq_true]; done) | (refine PB.t ?_ q2; simp only [mStm, *, if_true, if_false, reduceIte, Bool.false_eq_true]; done) | (refine PB.f (e := (1, s.2.1.1, s.1)) ?_ q2; simp only [mStm, *, if_true, if_false, reduceIte, Bool.false_eq_true]; rfl; done)
            · refine w_aloadn f211_103 rfl (by omega) ?_
              refine w_iconst (v := 1) f211_104 (by decide) ?_
              refine w_qV f211_105 (Or.inl rfl) rfl (by omega) (okd_of (by assumption)) rfl ⟨Nat.le_of_ble_eq_true rfl, rfl, Nat.le_of_ble_eq_true rfl⟩ (en210 _ _) (s210 hP hW) (fun o9 ho9 => ?_)
              rcases pb_cases ho9 with ⟨e2, m2, h2, q2, rfl⟩ | ⟨s2, m2, h2, q2, rfl⟩
              · refine w_bok (pv210 _ _) ?_
                refine w_goto (t := 116) f211_108 (by decide) ?_
                refine w_zret f211_116 rfl (by decide) ?_
                first | (refine PB.f ?_ q2; simp only [mStm, *, if_true, if_false, reduceIte, Bool.false_eq_true]; done) | (refine PB.t ?_ q2; simp only [mStm, *, if_true, if_false, reduceIte, Bool.false_eq_true]; done) | (refine PB.f (e := (1, s.2.1.1, s.1)) ?_ q2; simp only [mStm, *, if_true, if_false, reduceIte, Bool.false_eq_true]; rfl; done)
              · refine w_bok (pv210 _ _) ?_
                refine w_goto (t := 116) f211_108 (by decide) ?_
                refine w_zret f211_116 rfl (by decide) ?_
                first | (refine PB.f ?_ q2; simp only [mStm, *, if_true, if_false, reduceIte, Bool.false_eq_true]; done) | (refine PB.t ?_ q2; simp only [mStm, *, if_true, if_false, reduceIte, Bool.false_eq_true]; done) | (refine PB.f (e := (1, s.2.1.1, s.1)) ?_ q2; simp only [mStm, *, if_true, if_false, reduceIte, Bool.false_eq_true]; rfl; done)
          · refine w_aloadn f211_87 rfl (by omega) ?_
            refine w_iconst (v := 0) f211_88 (by decide) ?_
            refine w_qV f211_89 (Or.inl rfl) rfl (by omega) (okd_of (by assumption)) rfl ⟨Nat.le_of_ble_eq_true rfl, rfl, Nat.le_of_ble_eq_true rfl⟩ (en210 _ _) (s210 hP hW) (fun o9 ho9 => ?_)
            rcases pb_cases ho9 with ⟨e2, m2, h2, q2, rfl⟩ | ⟨s2, m2, h2, q2, rfl⟩
            · refine w_bok (pv210 _ _) ?_
              refine w_zret f211_92 rfl (by decide) ?_
              first | (refine PB.f ?_ q2; simp only [mStm, *, if_true, if_false, reduceIte, Bool.false_eq_true]; done) | (refine PB.t ?_ q2; simp only [mStm, *, if_true, if_false, reduceIte, Bool.false_eq_true]; done) | (refine PB.f (e := (1, s.2.1.1, s.1)) ?_ q2; simp only [mStm, *, if_true, if_false, reduceIte, Bool.false_eq_true]; rfl; done)
            · refine w_bok (pv210 _ _) ?_
              refine w_zret f211_92 rfl (by decide) ?_
              first | (refine PB.f ?_ q2; simp only [mStm, *, if_true, if_false, reduceIte, Bool.false_eq_true]; done) | (refine PB.t ?_ q2; simp only [mStm, *, if_true, if_false, reduceIte, Bool.false_eq_true]; done) | (refine PB.f (e := (1, s.2.1.1, s.1)) ?_ q2; simp only [mStm, *, if_true, if_false, reduceIte, Bool.false_eq_true]; rfl; done)
        · refine w_aloadn f211_72 rfl (by omega) ?_
          refine w_qV f211_73 (Or.inl rfl) rfl (by omega) (okd_of (by assumption)) rfl ⟨Nat.le_of_ble_eq_true rfl, rfl, Nat.le_of_ble_eq_true rfl⟩ (en209 _) (s209 hP hW) (fun o9 ho9 => ?_)
          rcases pb_cases ho9 with ⟨e2, m2, h2, q2, rfl⟩ | ⟨s2, m2, h2, q2, rfl⟩
          · refine w_bok (pv209 _ _) ?_
            refine w_zret f211_76 rfl (by decide) ?_
            first | (refine PB.f ?_ q2; simp only [mStm, *, if_true, if_false, reduceIte, Bool.false_eq_true]; done) | (refine PB.t ?_ q2; simp only [mStm, *, if_true, if_false, reduceIte, Bool.false_eq_true]; done) | (refine PB.f (e := (1, s.2.1.1, s.1)) ?_ q2; simp only [mStm, *, if_true, if_false, reduceIte, Bool.false_eq_true]; rfl; done)
          · refine w_bok (pv209 _ _) ?_
            refine w_zret f211_76 rfl (by decide) ?_
            first | (refine PB.f ?_ q2; simp only [mStm, *, if_true, if_false, reduceIte, Bool.false_eq_true]; done) | (refine PB.t ?_ q2; simp only [mStm, *, if_true, if_false, reduceIte, Bool.false_eq_true]; done) | (refine PB.f (e := (1, s.2.1.1, s.1)) ?_ q2; simp only [mStm, *, if_true, if_false, reduceIte, Bool.false_eq_true]; rfl; done)
      · refine w_aloadn f211_52 rfl (by omega) ?_
        refine w_sipush (v := 483) f211_53 (by decide) ?_
        refine w_iconst (v := 2) f211_56 (by decide) ?_
        refine w_iconst (v := 3) f211_57 (by decide) ?_
        refine w_qV f211_58 (Or.inl rfl) rfl (by omega) (okd_of (by assumption)) rfl ⟨Nat.le_of_ble_eq_true rfl, rfl, Nat.le_of_ble_eq_true rfl⟩ (en208 _ _ _ _) (s208 hP (Or.inr (Or.inr ⟨rfl, rfl, rfl⟩)) hW) (fun o9 ho9 => ?_)
        rcases pb_cases ho9 with ⟨e2, m2, h2, q2, rfl⟩ | ⟨s2, m2, h2, q2, rfl⟩
        · refine w_bok (pv208 _ _) ?_
          refine w_zret f211_61 rfl (by decide) ?_
          first | (refine PB.f ?_ q2; simp only [mStm, *, if_true, if_false, reduceIte, Bool.false_eq_true]; done) | (refine PB.t ?_ q2; simp only [mStm, *, if_true, if_false, reduceIte, Bool.false_eq_true]; done) | (refine PB.f (e := (1, s.2.1.1, s.1)) ?_ q2; simp only [mStm, *, if_true, if_false, reduceIte, Bool.false_eq_true]; rfl; done)
        · refine w_bok (pv208 _ _) ?_
          refine w_zret f211_61 rfl (by decide) ?_
          first | (refine PB.f ?_ q2; simp only [mStm, *, if_true, if_false, reduceIte, Bool.false_eq_true]; done) | (refine PB.t ?_ q2; simp only [mStm, *, if_true, if_false, reduceIte, Bool.false_eq_true]; done) | (refine PB.f (e := (1, s.2.1.1, s.1)) ?_ q2; simp only [mStm, *, if_true, if_false, reduceIte, Bool.false_eq_true]; rfl; done)
    · refine w_aloadn f211_31 rfl (by omega) ?_
      refine w_sipush (v := 427) f211_32 (by decide) ?_
      refine w_iconst (v := 1) f211_35 (by decide) ?_
      refine w_bipush (v := 8) f211_36 (by decide) ?_
      refine w_qV f211_38 (Or.inl rfl) rfl (by omega) (okd_of (by assumption)) rfl ⟨Nat.le_of_ble_eq_true rfl, rfl, Nat.le_of_ble_eq_true rfl⟩ (en208 _ _ _ _) (s208 hP (Or.inr (Or.inl ⟨rfl, rfl, rfl⟩)) hW) (fun o9 ho9 => ?_)
      rcases pb_cases ho9 with ⟨e2, m2, h2, q2, rfl⟩ | ⟨s2, m2, h2, q2, rfl⟩
      · refine w_bok (pv208 _ _) ?_
        refine w_zret f211_41 rfl (by decide) ?_
        first | (refine PB.f ?_ q2; simp only [mStm, *, if_true, if_false, reduceIte, Bool.false_eq_true]; done) | (refine PB.t ?_ q2; simp only [mStm, *, if_true, if_false, reduceIte, Bool.false_eq_true]; done) | (refine PB.f (e := (1, s.2.1.1, s.1)) ?_ q2; simp only [mStm, *, if_true, if_false, reduceIte, Bool.false_eq_true]; rfl; done)
      · refine w_bok (pv208 _ _) ?_
        refine w_zret f211_41 rfl (by decide) ?_
        first | (refine PB.f ?_ q2; simp only [mStm, *, if_true, if_false, reduceIte, Bool.false_eq_true]; done) | (refine PB.t ?_ q2; simp only [mStm, *, if_true, if_false, reduceIte, Bool.false_eq_true]; done) | (refine PB.f (e := (1, s.2.1.1, s.1)) ?_ q2; simp only [mStm, *, if_true, if_false, reduceIte, Bool.false_eq_true]; rfl; done)
  · refine w_aloadn f211_10 rfl (by omega) ?_
    refine w_sipush (v := 357) f211_11 (by decide) ?_
    refine w_iconst (v := 0) f211_14 (by decide) ?_
    refine w_bipush (v := 10) f211_15 (by decide) ?_
    refine w_qV f211_17 (Or.inl rfl) rfl (by omega) (okd_of (by assumption)) rfl ⟨Nat.le_of_ble_eq_true rfl, rfl, Nat.le_of_ble_eq_true rfl⟩ (en208 _ _ _ _) (s208 hP (Or.inl ⟨rfl, rfl, rfl⟩) hW) (fun o9 ho9 => ?_)
    rcases pb_cases ho9 with ⟨e2, m2, h2, q2, rfl⟩ | ⟨s2, m2, h2, q2, rfl⟩
    · refine w_bok (pv208 _ _) ?_
      refine w_zret f211_20 rfl (by decide) ?_
      first | (refine PB.f ?_ q2; simp only [mStm, *, if_true, if_false, reduceIte, Bool.false_eq_true]; done) | (refine PB.t ?_ q2; simp only [mStm, *, if_true, if_false, reduceIte, Bool.false_eq_true]; done) | (refine PB.f (e := (1, s.2.1.1, s.1)) ?_ q2; simp only [mStm, *, if_true, if_false, reduceIte, Bool.false_eq_true]; rfl; done)
    · refine w_bok (pv208 _ _) ?_
      refine w_zret f211_20 rfl (by decide) ?_
      first | (refine PB.f ?_ q2; simp only [mStm, *, if_true, if_false, reduceIte, Bool.false_eq_true]; done) | (refine PB.t ?_ q2; simp only [mStm, *, if_true, if_false, reduceIte, Bool.false_eq_true]; done) | (refine PB.f (e := (1, s.2.1.1, s.1)) ?_ q2; simp only [mStm, *, if_true, if_false, reduceIte, Bool.false_eq_true]; rfl; done)
end A

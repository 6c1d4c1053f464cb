/-! the reference's reading: new names, rows -/
section A
variable {K : List AKd} {h : Nat → Nat → Int} {R : R4} {σ : Sg} {r d : Nat} {w : Nat → Int} {b : Nat → Int} {n : Int}
def naG (c : Int) (b : Nat → Int) (T : Tk) : Nat → Int → (Nat → Int) → Nat → Int
  | 0, _, w => w
  | f + 1, i, w => naG c b T f (i + 1) (udI w (c + 1 + i).toNat (if i < T.2.1 - T.1 then b (T.1 + i).toNat else 0))
def naW (w : Nat → Int) (c : Int) (b : Nat → Int) (T : Tk) : Nat → Int := naG c b T 6 0 (udI w c.toNat (T.2.1 - T.1))
def mNew (b : Nat → Int) (n : Int) (f c : Int) (s : PS) : PM := if ¬ isN s.2.1 then err 1 s else if nhW s.1 f c b s.2.1 ≠ -1 then err 3 s else .inr (adv b n (naW s.1 (f + 7 * s.1 c.toNat) b s.2.1, s.2.1, s.2.2))
theorem l207 {h0 : Nat → Nat → Int} {f c e : Int} {T : Tk} {nn : Nat → Int} {Q : Out → Prop} (he : 0 ≤ e ∧ e ≤ 497) (hT : TR T ∧ T.2.1 - T.1 ≤ 6) : ∀ (g : Nat) (i : Int) (w : Nat → Int) (h : Nat → Nat → Int), 0 ≤ i → i + g = 6 → PX h0 b n (w, T, nn) h → (∀ h1, PX h0 b n (naG e b T g i w, T, nn) h1 → Rn (ev 207 109 [AR 268, AI f, AI c, AI e, AI 6] [] (KS r d, h1, R)) Q) → Rn (ev 207 55 [AR 268, AI f, AI c, AI e, AI i] [] (KS r d, h, R)) Q := by
  intro g
  have k0 := @kd_268 r d
  have k1 := @kd_269 r d
  have k2 := @kd_275 r d
  unfold TR at hT
  induction g with
  | zero =>
    intro i w h h1 h2 hP q
    have e6 : i = 6 := by omega
    subst e6
    refine w_iload f207_55 rfl ?_
    refine w_bipush (v := 6) f207_57 (by decide) ?_
    refine w_ic_ge (t := 109) f207_59 (by decide) (fun c1 => ?_) (fun c1 => by omega)
    exact q h hP
  | succ g ih =>
    intro i w h h1 h2 hP q
    have a1 := hP.1.1
    have a6 : h 268 19 = T.1 := hP.2.2.1.1.1
    have a7 : h 268 18 = T.2.1 := hP.2.2.1.1.2.1
    refine w_iload f207_55 rfl ?_
    refine w_bipush (v := 6) f207_57 (by decide) ?_
    refine w_ic_ge (t := 109) f207_59 (by decide) (fun c1 => by omega) (fun c1 => ?_)
    refine w_aloadn f207_62 rfl (by omega) ?_
    refine w_getR f207_63 (by assumption) rfl (by omega) ?_
    refine w_iloadn f207_66 rfl ?_
    refine w_iconst (v := 1) f207_67 (by decide) ?_
    refine w_iaddn f207_68 (by omega) ?_
    refine w_iload f207_69 rfl ?_
    refine w_iaddn f207_71 (by omega) ?_
    refine w_iload f207_72 rfl ?_
    refine w_aloadn f207_74 rfl (by omega) ?_
    refine w_getI f207_75 (by decide) (by assumption) (by (try simp only [hput, hcopy, Nat.reduceEqDiff, Nat.add_left_cancel_iff, Nat.add_right_cancel_iff, Nat.left_eq_add, Nat.add_eq_left, Nat.right_eq_add, Nat.add_eq_right, Nat.reduceAdd, Nat.add_zero, Nat.succ_ne_self, Nat.one_ne_zero, Nat.zero_ne_one, eq_self, and_self, and_true, true_and, and_false, false_and, if_true, if_false, reduceIte, Int.reduceToNat, Int.toNat_natCast, a1, a6, a7]); exact rfl) ?_
    refine w_aloadn f207_78 rfl (by omega) ?_
    refine w_getI f207_79 (by decide) (by assumption) (by (try simp only [hput, hcopy, Nat.reduceEqDiff, Nat.add_left_cancel_iff, Nat.add_right_cancel_iff, Nat.left_eq_add, Nat.add_eq_left, Nat.right_eq_add, Nat.add_eq_right, Nat.reduceAdd, Nat.add_zero, Nat.succ_ne_self, Nat.one_ne_zero, Nat.zero_ne_one, eq_self, and_self, and_true, true_and, and_false, false_and, if_true, if_false, reduceIte, Int.reduceToNat, Int.toNat_natCast, a1, a6, a7]); exact rfl) ?_
    refine w_isubn f207_82 (by omega) ?_
    refine w_ic_ge (t := 101) f207_83 (by decide) (fun c2 => ?_) (fun c2 => ?_)
    · refine w_iconst (v := 0) f207_101 (by decide) ?_
      refine w_iast f207_102 (by assumption) (by omega) ?_
      refine w_iincn f207_103 rfl (by omega) (sto_5_4 rfl) ?_
      refine w_goto (t := 55) f207_106 (by decide) ?_
      first | (refine ih _ _ _ (by omega) (by omega) (hP.putW (j := (e + 1 + i).toNat) (v := b (T.1 + i).toNat)) (fun h1 g1 => q h1 ?_); simp only [naG]; rw [if_pos (by omega)]; exact g1; done) | (refine ih _ _ _ (by omega) (by omega) (hP.putW (j := (e + 1 + i).toNat) (v := 0)) (fun h1 g1 => q h1 ?_); simp only [naG]; rw [if_neg (by omega)]; exact g1; done)
    · refine w_aloadn f207_86 rfl (by omega) ?_
      refine w_getR f207_87 (by assumption) rfl (by omega) ?_
      refine w_aloadn f207_90 rfl (by omega) ?_
      refine w_getI f207_91 (by decide) (by assumption) (by (try simp only [hput, hcopy, Nat.reduceEqDiff, Nat.add_left_cancel_iff, Nat.add_right_cancel_iff, Nat.left_eq_add, Nat.add_eq_left, Nat.right_eq_add, Nat.add_eq_right, Nat.reduceAdd, Nat.add_zero, Nat.succ_ne_self, Nat.one_ne_zero, Nat.zero_ne_one, eq_self, and_self, and_true, true_and, and_false, false_and, if_true, if_false, reduceIte, Int.reduceToNat, Int.toNat_natCast, a1, a6, a7]); exact rfl) ?_
      refine w_iload f207_94 rfl ?_
      refine w_iaddn f207_96 (by omega) ?_
      refine w_iald f207_97 (by assumption) (by omega) (by (try simp only [hput, hcopy, Nat.reduceEqDiff, Nat.add_left_cancel_iff, Nat.add_right_cancel_iff, Nat.left_eq_add, Nat.add_eq_left, Nat.right_eq_add, Nat.add_eq_right, Nat.reduceAdd, Nat.add_zero, Nat.succ_ne_self, Nat.one_ne_zero, Nat.zero_ne_one, eq_self, and_self, and_true, true_and, and_false, false_and, if_true, if_false, reduceIte, Int.reduceToNat, Int.toNat_natCast, a1, a6, a7]); exact rfl) ?_
      refine w_goto (t := 102) f207_98 (by decide) ?_
      refine w_iast f207_102 (by assumption) (by omega) ?_
      refine w_iincn f207_103 rfl (by omega) (sto_5_4 rfl) ?_
      refine w_goto (t := 55) f207_106 (by decide) ?_
      first | (refine ih _ _ _ (by omega) (by omega) (hP.putW (j := (e + 1 + i).toNat) (v := b (T.1 + i).toNat)) (fun h1 g1 => q h1 ?_); simp only [naG]; rw [if_pos (by omega)]; exact g1; done) | (refine ih _ _ _ (by omega) (by omega) (hP.putW (j := (e + 1 + i).toNat) (v := 0)) (fun h1 g1 => q h1 ?_); simp only [naG]; rw [if_neg (by omega)]; exact g1; done)
theorem l207b {h0 : Nat → Nat → Int} {f c e x : Int} {s : PS} (hP : PX h0 b n s h) : Rn (ev 207 109 [AR 268, AI f, AI c, AI e, AI x] [] (KS r d, h, R)) (PB r d R h0 b n (.inr (adv b n s))) := by
  have k0 := @kd_268 r d
  refine w_aloadn f207_109 rfl (by omega) ?_
  refine w_qV f207_110 (Or.inl rfl) rfl (by omega) (okd_of (by assumption)) rfl ⟨Nat.le_of_ble_eq_true rfl, rfl, Nat.le_of_ble_eq_true rfl⟩ (en192 _) (hP.adv) (fun o9 ho9 => ?_)
  obtain ⟨h1, q1, rfl⟩ := ho9
  refine w_bok (pv192 _ _) ?_
  refine w_iconst (v := 1) f207_113 (by decide) ?_
  refine w_zret f207_114 rfl (by decide) ?_
  exact PB.t rfl q1
theorem s207 {h0 : Nat → Nat → Int} {s : PS} {f c m : Int} (hP : PX h0 b n s h) (hN : NC f c m) (hm : 0 ≤ s.1 c.toNat ∧ s.1 c.toNat < m) : Rn (ev 207 0 [AR 268, AI f, AI c, AU, AU] [] (KS r d, h, R)) (PB r d R h0 b n (mNew b n f c s)) := by
  have k0 := @kd_268 r d
  have k1 := @kd_269 r d
  refine w_aloadn f207_0 rfl (by omega) ?_
  refine w_qV f207_1 (Or.inl rfl) rfl (by omega) (okd_of (by assumption)) rfl ⟨Nat.le_of_ble_eq_true rfl, rfl, Nat.le_of_ble_eq_true rfl⟩ (en198 _) (s198 hP) (fun o9 ho9 => ?_)
  rcases ho9 with ⟨z1, h1, q1, rfl⟩ | ⟨z1, rfl⟩
  · refine w_bok (pv198 _ _) ?_
    refine w_if_ne (t := 9) f207_4 (by decide) (fun c1 => absurd rfl c1) (fun c1 => ?_)
    refine w_iconst (v := 0) f207_7 (by decide) ?_
    refine w_zret f207_8 rfl (by decide) ?_
    unfold mNew
    rw [if_pos z1]
    exact ⟨h1, q1, rfl⟩
  · refine w_bok (pv198 _ _) ?_
    have a6 := hP.2.2.1.1.1
    have a7 := hP.2.2.1.1.2.1
    have a13 := hP.2.2.2.1
    have aT := hP.2.2.1.2
    have hN2 := hN
    unfold NC at hN2
    have hTR := aT
    unfold TR at hTR
    refine w_if_ne (t := 9) f207_4 (by decide) (fun c1 => ?_) (fun c1 => absurd c1 (by decide))
    refine w_aloadn f207_9 rfl (by omega) ?_
    refine w_iloadn f207_10 rfl ?_
    refine w_iloadn f207_11 rfl ?_
    refine w_cV f207_12 (Or.inl rfl) rfl (by omega) (okd_of (by assumption)) rfl ⟨Nat.le_of_ble_eq_true rfl, rfl, Nat.le_of_ble_eq_true rfl⟩ (en200 _ _ _) (s200 hP hN (by omega) z1.2) (pv200 _ _) ?_
    refine w_iconst (v := -1) f207_15 (by decide) ?_
    refine w_ic_eq (t := 25) f207_16 (by decide) (fun c2 => ?_) (fun c2 => ?_)
    · refine w_iloadn f207_25 rfl ?_
      refine w_bipush (v := 7) f207_26 (by decide) ?_
      refine w_aloadn f207_28 rfl (by omega) ?_
      refine w_getR f207_29 (by assumption) rfl (by omega) ?_
      refine w_iloadn f207_32 rfl ?_
      refine w_iald f207_33 (by assumption) (by omega) (by (try simp only [hput, hcopy, Nat.reduceEqDiff, Nat.add_left_cancel_iff, Nat.add_right_cancel_iff, Nat.left_eq_add, Nat.add_eq_left, Nat.right_eq_add, Nat.add_eq_right, Nat.reduceAdd, Nat.add_zero, Nat.succ_ne_self, Nat.one_ne_zero, Nat.zero_ne_one, eq_self, and_self, and_true, true_and, and_false, false_and, if_true, if_false, reduceIte, Int.reduceToNat, Int.toNat_natCast, a6, a7, a13]); exact rfl) ?_
      refine w_imuln f207_34 (by omega) ?_
      refine w_iaddn f207_35 (by omega) ?_
      refine w_istoren f207_36 (Nat.le_of_ble_eq_true rfl) (sto_5_3 rfl) ?_
      refine w_aloadn f207_37 rfl (by omega) ?_
      refine w_getR f207_38 (by assumption) rfl (by omega) ?_
      refine w_iloadn f207_41 rfl ?_
      refine w_aloadn f207_42 rfl (by omega) ?_
      refine w_getI f207_43 (by decide) (by assumption) (by (try simp only [hput, hcopy, Nat.reduceEqDiff, Nat.add_left_cancel_iff, Nat.add_right_cancel_iff, Nat.left_eq_add, Nat.add_eq_left, Nat.right_eq_add, Nat.add_eq_right, Nat.reduceAdd, Nat.add_zero, Nat.succ_ne_self, Nat.one_ne_zero, Nat.zero_ne_one, eq_self, and_self, and_true, true_and, and_false, false_and, if_true, if_false, reduceIte, Int.reduceToNat, Int.toNat_natCast, a6, a7, a13]); exact rfl) ?_
      refine w_aloadn f207_46 rfl (by omega) ?_
      refine w_getI f207_47 (by decide) (by assumption) (by (try simp only [hput, hcopy, Nat.reduceEqDiff, Nat.add_left_cancel_iff, Nat.add_right_cancel_iff, Nat.left_eq_add, Nat.add_eq_left, Nat.right_eq_add, Nat.add_eq_right, Nat.reduceAdd, Nat.add_zero, Nat.succ_ne_self, Nat.one_ne_zero, Nat.zero_ne_one, eq_self, and_self, and_true, true_and, and_false, false_and, if_true, if_false, reduceIte, Int.reduceToNat, Int.toNat_natCast, a6, a7, a13]); exact rfl) ?_
      refine w_isubn f207_50 (by omega) ?_
      refine w_iast f207_51 (by assumption) (by omega) ?_
      refine w_iconst (v := 0) f207_52 (by decide) ?_
      refine w_istore f207_53 (Nat.le_of_ble_eq_true rfl) (sto_5_4 rfl) ?_
      refine l207 (by omega) ⟨aT, z1.2⟩ 6 0 _ _ (by omega) (by omega) hP.putW (fun h2 q2 => (l207b q2).mono ?_)
      intro o q3
      unfold mNew
      rw [if_neg (fun z => z z1), if_neg (fun z => z c2)]
      exact q3
    · refine w_aloadn f207_19 rfl (by omega) ?_
      refine w_iconst (v := 3) f207_20 (by decide) ?_
      refine w_qV f207_21 (Or.inl rfl) rfl (by omega) (okd_of (by assumption)) rfl ⟨Nat.le_of_ble_eq_true rfl, rfl, Nat.le_of_ble_eq_true rfl⟩ (en193 _ _) (s193 hP) (fun o9 ho9 => ?_)
      obtain ⟨h1, q1, rfl⟩ := ho9
      refine w_bok (pv193 _ _) ?_
      refine w_zret f207_24 rfl (by exact Or.inl rfl) ?_
      unfold mNew
      rw [if_neg (fun z => z z1), if_pos c2]
      exact ⟨h1, q1, rfl⟩
/-- the counts are within their bounds -/
def WFb (w : Nat → Int) : Prop := (0 ≤ w 0 ∧ w 0 ≤ 10) ∧ (0 ≤ w 1 ∧ w 1 ≤ 8) ∧ (0 ≤ w 2 ∧ w 2 ≤ 3) ∧ (0 ≤ w 3 ∧ w 3 ≤ 24) ∧ (0 ≤ w 4 ∧ w 4 ≤ 12)
theorem naG_o {c : Int} {T : Tk} {y : Nat} (hy : (y : Int) ≤ c ∧ 0 ≤ c) : ∀ (f : Nat) (i : Int) (w : Nat → Int), 0 ≤ i → naG c b T f i w y = w y
  | 0, _, _, _ => rfl
  | f + 1, i, w, h => by
    show naG c b T f (i + 1) _ y = w y
    rw [naG_o hy f (i + 1) _ (by omega)]
    exact if_neg (by omega)
theorem naW_o {c : Int} {T : Tk} {y : Nat} (hy : (y : Int) < c ∧ 0 ≤ c) : naW w c b T y = w y := by
  unfold naW
  rw [naG_o ⟨by omega, hy.2⟩ 6 0 _ (by omega)]
  exact if_neg (by omega)
theorem mNew_b {f c m : Int} {s s1 : PS} (hN : NC f c m) (hW : WFb s.1) (hm : mNew b n f c s = .inr s1) : ∀ y : Nat, y < 357 → s1.1 y = s.1 y := by
  intro y hy
  unfold mNew at hm
  split at hm
  · cases hm
  · split at hm
    · cases hm
    · cases hm
      unfold NC at hN
      unfold WFb at hW
      have hc : 357 ≤ f + 7 * s.1 c.toNat := by
        rcases hN with ⟨e1, e2, -⟩ | ⟨e1, e2, -⟩ | ⟨e1, e2, -⟩ <;> subst e1 <;> subst e2
        · have := hW.1; show 357 ≤ 357 + 7 * s.1 0; omega
        · have := hW.2.1; show 357 ≤ 427 + 7 * s.1 1; omega
        · have := hW.2.2.1; show 357 ≤ 483 + 7 * s.1 2; omega
      exact naW_o (by omega)
def mNmd (b : Nat → Int) (n : Int) (f c m : Int) (s : PS) : PM := if s.1 c.toNat = m then err 5 s else
  pb (mNew b n f c (adv b n s)) (fun s => pb (if c = 2 then pb (mNum b n 0 s) (fun s => .inr (udI s.1 (9 + s.1 2).toNat (s.2.2 0), s.2.1, s.2.2)) else .inr s) (fun s => mSem b n (udI s.1 c.toNat (s.1 c.toNat + 1), s.2.1, s.2.2)))
theorem mNum_w {k : Int} {s s1 : PS} (hm : mNum b n k s = .inr s1) : s1.1 = s.1 := by
  unfold mNum at hm
  split at hm
  · cases hm
  · split at hm
    · cases hm
    · cases hm; rfl
theorem l208 {h0 : Nat → Nat → Int} {s : PS} {f c m : Int} (hP : PX h0 b n s h) (hc : 0 ≤ c ∧ c ≤ 2) (hb : 0 ≤ s.1 c.toNat ∧ s.1 c.toNat ≤ 100) : Rn (ev 208 66 [AR 268, AI f, AI c, AI m] [] (KS r d, h, R)) (PB r d R h0 b n (mSem b n (udI s.1 c.toNat (s.1 c.toNat + 1), s.2.1, s.2.2))) := by
  have k0 := @kd_268 r d
  have k1 := @kd_269 r d
  have a13 := hP.2.2.2.1
  refine w_aloadn f208_66 rfl (by omega) ?_
  refine w_getR f208_67 (by assumption) rfl (by omega) ?_
  refine w_iloadn f208_70 rfl ?_
  refine w_dup2 f208_71 rfl ?_
  refine w_iald f208_72 (by assumption) (by omega) (by (try simp only [hput, hcopy, Nat.reduceEqDiff, Nat.add_left_cancel_iff, Nat.add_right_cancel_iff, Nat.left_eq_add, Nat.add_eq_left, Nat.right_eq_add, Nat.add_eq_right, Nat.reduceAdd, Nat.add_zero, Nat.succ_ne_self, Nat.one_ne_zero, Nat.zero_ne_one, eq_self, and_self, and_true, true_and, and_false, false_and, if_true, if_false, reduceIte, Int.reduceToNat, Int.toNat_natCast, a13]); exact rfl) ?_
  refine w_iconst (v := 1) f208_73 (by decide) ?_
  refine w_iaddn f208_74 (by omega) ?_
  refine w_iast f208_75 (by assumption) (by omega) ?_
  refine w_aloadn f208_76 rfl (by omega) ?_
  refine w_qV f208_77 (Or.inl rfl) rfl (by omega) (okd_of (by assumption)) rfl ⟨Nat.le_of_ble_eq_true rfl, rfl, Nat.le_of_ble_eq_true rfl⟩ (en197 _) (s197 hP.putW) (fun o9 ho9 => ?_)
  rcases pb_cases ho9 with ⟨e2, m2, h2, q2, rfl⟩ | ⟨s2, m2, h2, q2, rfl⟩
  · refine w_bok (pv197 _ _) ?_
    refine w_zret f208_80 rfl (by decide) ?_
    first | exact PB.f m2 q2 | exact PB.t m2 q2
  · refine w_bok (pv197 _ _) ?_
    refine w_zret f208_80 rfl (by decide) ?_
    first | exact PB.f m2 q2 | exact PB.t m2 q2
theorem s208 {h0 : Nat → Nat → Int} {s : PS} {f c m : Int} (hP : PX h0 b n s h) (hN : NC f c m) (hW : WFb s.1) : Rn (ev 208 0 [AR 268, AI f, AI c, AI m] [] (KS r d, h, R)) (PB r d R h0 b n (mNmd b n f c m s)) := by
  have k0 := @kd_268 r d
  have k1 := @kd_269 r d
  have k2 := @kd_276 r d
  have a13 := hP.2.2.2.1
  have hm10 : m ≤ 10 := by unfold NC at hN; omega
  have hm9 : (0 ≤ s.1 c.toNat ∧ s.1 c.toNat ≤ m) ∧ 0 ≤ c ∧ c ≤ 2 := by
    unfold WFb at hW
    rcases hN with ⟨-, e, e2⟩ | ⟨-, e, e2⟩ | ⟨-, e, e2⟩ <;> subst e <;> subst e2
    · exact ⟨hW.1, by decide, by decide⟩
    · exact ⟨hW.2.1, by decide, by decide⟩
    · exact ⟨hW.2.2.1, by decide, by decide⟩
  refine w_aloadn f208_0 rfl (by omega) ?_
  refine w_getR f208_1 (by assumption) rfl (by omega) ?_
  refine w_iloadn f208_4 rfl ?_
  refine w_iald f208_5 (by assumption) (by omega) (by (try simp only [hput, hcopy, Nat.reduceEqDiff, Nat.add_left_cancel_iff, Nat.add_right_cancel_iff, Nat.left_eq_add, Nat.add_eq_left, Nat.right_eq_add, Nat.add_eq_right, Nat.reduceAdd, Nat.add_zero, Nat.succ_ne_self, Nat.one_ne_zero, Nat.zero_ne_one, eq_self, and_self, and_true, true_and, and_false, false_and, if_true, if_false, reduceIte, Int.reduceToNat, Int.toNat_natCast, a13]); exact rfl) ?_
  refine w_iloadn f208_6 rfl ?_
  refine w_ic_ne (t := 16) f208_7 (by decide) (fun c1 => ?_) (fun c1 => ?_)
  · refine w_aloadn f208_16 rfl (by omega) ?_
    refine w_qV f208_17 (Or.inl rfl) rfl (by omega) (okd_of (by assumption)) rfl ⟨Nat.le_of_ble_eq_true rfl, rfl, Nat.le_of_ble_eq_true rfl⟩ (en192 _) (hP.adv) (fun o9 ho9 => ?_)
    obtain ⟨h1, q1, rfl⟩ := ho9
    refine w_bok (pv192 _ _) ?_
    refine w_aloadn f208_20 rfl (by omega) ?_
    refine w_iloadn f208_21 rfl ?_
    refine w_iloadn f208_22 rfl ?_
    refine w_qV f208_23 (Or.inl rfl) rfl (by omega) (okd_of (by assumption)) rfl ⟨Nat.le_of_ble_eq_true rfl, rfl, Nat.le_of_ble_eq_true rfl⟩ (en207 _ _ _) (s207 q1 hN (by show 0 ≤ s.1 c.toNat ∧ s.1 c.toNat < m; omega)) (fun o9 ho9 => ?_)
    rcases pb_cases ho9 with ⟨e2, m2, h2, q2, rfl⟩ | ⟨s2, m2, h2, q2, rfl⟩
    · refine w_bok (pv207 _ _) ?_
      refine w_if_ne (t := 31) f208_26 (by decide) (fun e9 => absurd e9 (by decide)) (fun _ => ?_)
      refine w_iconst (v := 0) f208_29 (by decide) ?_
      refine w_zret f208_30 rfl (by decide) ?_
      first | (unfold mNmd; rw [if_pos c1]; exact ⟨h1, q1, rfl⟩; done) | (refine PB.f ?_ q2; unfold mNmd; rw [if_neg c1, m2]; rfl; done) | (refine PB.f ?_ q3; unfold mNmd; rw [if_neg c1, m2]; simp only [pb]; rw [if_pos (show c = 2 by assumption), m3]; done)
    · refine w_bok (pv207 _ _) ?_
      have hw2 := mNew_b hN (show WFb (adv b n s).1 from hW) m2
      have a23 := q2.2.2.2.1
      have e22 : s2.1 2 = s.1 2 := hw2 2 (by decide)
      have e2c : s2.1 c.toNat = s.1 c.toNat := hw2 c.toNat (by omega)
      refine w_if_ne (t := 31) f208_26 (by decide) (fun _ => ?_) (fun e9 => absurd e9 (by decide))
      refine w_iloadn f208_31 rfl ?_
      refine w_iconst (v := 2) f208_32 (by decide) ?_
      refine w_ic_ne (t := 66) f208_33 (by decide) (fun c4 => ?_) (fun c4 => ?_)
      · first | (have z := l208 (r := r) (d := d) (R := R) (f := f) (m := m) q2 hm9.2 (by omega); refine z.mono (fun o9 ho9 => PB.ex ?_ ho9); unfold mNmd; rw [if_neg c1, m2]; simp only [pb]; rw [if_neg (show ¬ c = 2 by assumption)]; done) | (have e3c : (udI s3.1 (9 + s3.1 2).toNat (s3.2.2 0)) c.toNat = s.1 c.toNat := (if_neg (by omega)).trans (by rw [w3]; exact e2c); have z := l208 (r := r) (d := d) (R := R) (f := f) (m := m) (q3.putW (j := (9 + s3.1 2).toNat) (v := s3.2.2 0)) hm9.2 (show 0 ≤ udI s3.1 (9 + s3.1 2).toNat (s3.2.2 0) c.toNat ∧ udI s3.1 (9 + s3.1 2).toNat (s3.2.2 0) c.toNat ≤ 100 by rw [e3c]; omega); refine z.mono (fun o9 ho9 => PB.ex ?_ ho9); unfold mNmd; rw [if_neg c1, m2]; simp only [pb]; rw [if_pos (show c = 2 by assumption), m3]; done)
      · refine w_aloadn f208_36 rfl (by omega) ?_
        refine w_iconst (v := 0) f208_37 (by decide) ?_
        refine w_qV f208_38 (Or.inl rfl) rfl (by omega) (okd_of (by assumption)) rfl ⟨Nat.le_of_ble_eq_true rfl, rfl, Nat.le_of_ble_eq_true rfl⟩ (en201 _ _) (s201 q2 (by decide)) (fun o9 ho9 => ?_)
        rcases pb_cases ho9 with ⟨e3, m3, h3, q3, rfl⟩ | ⟨s3, m3, h3, q3, rfl⟩
        · refine w_bok (pv201 _ _) ?_
          refine w_if_ne (t := 46) f208_41 (by decide) (fun e9 => absurd e9 (by decide)) (fun _ => ?_)
          refine w_iconst (v := 0) f208_44 (by decide) ?_
          refine w_zret f208_45 rfl (by decide) ?_
          first | (unfold mNmd; rw [if_pos c1]; exact ⟨h1, q1, rfl⟩; done) | (refine PB.f ?_ q2; unfold mNmd; rw [if_neg c1, m2]; rfl; done) | (refine PB.f ?_ q3; unfold mNmd; rw [if_neg c1, m2]; simp only [pb]; rw [if_pos (show c = 2 by assumption), m3]; done)
        · refine w_bok (pv201 _ _) ?_
          have a33 := q3.2.2.2.1
          have a34 := q3.2.2.2.2.1
          have w3 := mNum_w m3
          have hV := hW.2.2.1
          have e32 : s3.1 2 = s.1 2 := by rw [w3]; exact e22
          refine w_if_ne (t := 46) f208_41 (by decide) (fun _ => ?_) (fun e9 => absurd e9 (by decide))
          refine w_aloadn f208_46 rfl (by omega) ?_
          refine w_getR f208_47 (by assumption) rfl (by omega) ?_
          refine w_bipush (v := 9) f208_50 (by decide) ?_
          refine w_aloadn f208_52 rfl (by omega) ?_
          refine w_getR f208_53 (by assumption) rfl (by omega) ?_
          refine w_iconst (v := 2) f208_56 (by decide) ?_
          refine w_iald f208_57 (by assumption) (by omega) (by exact congrFun a33 2) ?_
          refine w_iaddn f208_58 (by omega) ?_
          refine w_aloadn f208_59 rfl (by omega) ?_
          refine w_getR f208_60 (by assumption) rfl (by omega) ?_
          refine w_iconst (v := 0) f208_63 (by decide) ?_
          refine w_iald f208_64 (by assumption) (by omega) (by exact congrFun a34 0) ?_
          refine w_iast f208_65 (by assumption) (by omega) ?_
          first | (have z := l208 (r := r) (d := d) (R := R) (f := f) (m := m) q2 hm9.2 (by omega); refine z.mono (fun o9 ho9 => PB.ex ?_ ho9); unfold mNmd; rw [if_neg c1, m2]; simp only [pb]; rw [if_neg (show ¬ c = 2 by assumption)]; done) | (have e3c : (udI s3.1 (9 + s3.1 2).toNat (s3.2.2 0)) c.toNat = s.1 c.toNat := (if_neg (by omega)).trans (by rw [w3]; exact e2c); have z := l208 (r := r) (d := d) (R := R) (f := f) (m := m) (q3.putW (j := (9 + s3.1 2).toNat) (v := s3.2.2 0)) hm9.2 (show 0 ≤ udI s3.1 (9 + s3.1 2).toNat (s3.2.2 0) c.toNat ∧ udI s3.1 (9 + s3.1 2).toNat (s3.2.2 0) c.toNat ≤ 100 by rw [e3c]; omega); refine z.mono (fun o9 ho9 => PB.ex ?_ ho9); unfold mNmd; rw [if_neg c1, m2]; simp only [pb]; rw [if_pos (show c = 2 by assumption), m3]; done)
  · refine w_aloadn f208_10 rfl (by omega) ?_
    refine w_iconst (v := 5) f208_11 (by decide) ?_
    refine w_qV f208_12 (Or.inl rfl) rfl (by omega) (okd_of (by assumption)) rfl ⟨Nat.le_of_ble_eq_true rfl, rfl, Nat.le_of_ble_eq_true rfl⟩ (en193 _ _) (s193 hP) (fun o9 ho9 => ?_)
    obtain ⟨h1, q1, rfl⟩ := ho9
    refine w_bok (pv193 _ _) ?_
    refine w_zret f208_15 rfl (by exact Or.inl rfl) ?_
    first | (unfold mNmd; rw [if_pos c1]; exact ⟨h1, q1, rfl⟩; done) | (refine PB.f ?_ q2; unfold mNmd; rw [if_neg c1, m2]; rfl; done) | (refine PB.f ?_ q3; unfold mNmd; rw [if_neg c1, m2]; simp only [pb]; rw [if_pos (show c = 2 by assumption), m3]; done)
end A

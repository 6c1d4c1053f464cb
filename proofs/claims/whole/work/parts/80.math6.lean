/-! what loading leaves alone -/
section A
variable {w : Nat → Int} {b : Nat → Int} {n : Int}
def Mid (w u : Nat → Int) : Prop := ∀ y : Nat, (5 ≤ y ∧ y ≤ 8) ∨ (12 ≤ y ∧ y ≤ 92) ∨ 504 ≤ y → u y = w y
theorem Mid.rf : Mid w w := fun _ _ => rfl
theorem Mid.tr {u v : Nat → Int} (a : Mid w u) (c : Mid u v) : Mid w v := fun y h => (c y h).trans (a y h)
theorem Mid.ud {u : Nat → Int} {k : Nat} {v : Int} (a : Mid w u) (hk : ¬ ((5 ≤ k ∧ k ≤ 8) ∨ (12 ≤ k ∧ k ≤ 92) ∨ 504 ≤ k)) : Mid w (udI u k v) := fun y h => (if_neg (fun z : y = k => hk (z ▸ h))).trans (a y h)
theorem Mid.of {u : Nat → Int} (e : u = w) : Mid w u := fun y _ => congrFun e y
theorem naW_mid {c : Int} {T : Tk} (hc : 93 ≤ c ∧ c + 6 < 504) : Mid w (naW w c b T) := by
  intro y hy
  rcases (show (y : Int) < c ∨ c + 6 < y by omega) with h | h
  · unfold naW
    rw [naG_o ⟨by omega, by omega⟩ _ _ _ (Int.le_refl _)]
    exact if_neg (by omega)
  · exact naW_o2 ⟨h, by omega⟩
theorem naW_lo {c : Int} {T : Tk} {y : Nat} (h : (y : Int) < c) : naW w c b T y = w y := by
  unfold naW
  rw [naG_o ⟨by omega, by omega⟩ _ _ _ (Int.le_refl _)]
  exact if_neg (by omega)
theorem ldW_mid {x y z : Int} (h3 : 0 ≤ w 3 ∧ w 3 < 24) : Mid w (ldW w x y z) := by
  unfold ldW
  exact ((((((Mid.rf.ud (by omega)).ud (by omega)).ud (by omega)).ud (by omega)).ud (by omega)).ud (by omega))
theorem gdW_mid {x y z : Int} (h3 : 1 ≤ w 3 ∧ w 3 ≤ 24) : Mid w (gdW w x y z) := by
  unfold gdW
  exact ((Mid.rf.ud (by omega)).ud (by omega)).ud (by omega)
theorem acsW_mid {x y z : Int} (h3 : 1 ≤ w 3 ∧ w 3 ≤ 24) : Mid w (acsW w x y z) := by
  unfold acsW
  exact ((Mid.rf.ud (by omega)).ud (by omega)).ud (by omega)
theorem keepW_mid {s x y z : Int} (h4 : 0 ≤ w 4 ∧ w 4 < 12) : Mid w (keepW w s x y z) := by
  unfold keepW
  exact ((((Mid.rf.ud (by omega)).ud (by omega)).ud (by omega)).ud (by omega)).ud (by omega)
theorem mNmd_mid {f c m : Int} {s s1 : PS} (hN : NC f c m) (hW : WFb s.1) (hm : mNmd b n f c m s = .inr s1) : Mid s.1 s1.1 := by
  unfold mNmd at hm
  split at hm
  · cases hm
  · next hne =>
    obtain ⟨s2, m2, hm⟩ := pb_inr hm
    obtain ⟨s3, m3, hm⟩ := pb_inr hm
    have e4 := mSem_w hm
    have hc : 0 ≤ s.1 c.toNat ∧ s.1 c.toNat < m := by
      obtain ⟨v0, v1, v2, -, -⟩ := hW
      rcases hN with ⟨rfl, rfl, rfl⟩ | ⟨rfl, rfl, rfl⟩ | ⟨rfl, rfl, rfl⟩
      · have g : s.1 0 ≠ 10 := hne
        exact ⟨v0.1, show s.1 0 < 10 by omega⟩
      · have g : s.1 1 ≠ 8 := hne
        exact ⟨v1.1, show s.1 1 < 8 by omega⟩
      · have g : s.1 2 ≠ 3 := hne
        exact ⟨v2.1, show s.1 2 < 3 by omega⟩
    have a2 : Mid s.1 s2.1 := by
      unfold mNew at m2
      split at m2
      · cases m2
      · split at m2
        · cases m2
        · injection m2 with m2
          subst m2
          exact naW_mid (by rcases hN with ⟨rfl, rfl, rfl⟩ | ⟨rfl, rfl, rfl⟩ | ⟨rfl, rfl, rfl⟩ <;> show 93 ≤ _ + 7 * s.1 _ ∧ _ + 7 * s.1 _ + 6 < 504 <;> omega)
    have b2 : ∀ y : Nat, y < 93 → s2.1 y = s.1 y := by
      unfold mNew at m2
      split at m2
      · cases m2
      · split at m2
        · cases m2
        · injection m2 with m2
          subst m2
          exact fun y hy => naW_lo (by rcases hN with ⟨rfl, rfl, rfl⟩ | ⟨rfl, rfl, rfl⟩ | ⟨rfl, rfl, rfl⟩ <;> show (y : Int) < _ + 7 * s.1 _ <;> omega)
    have a3 : Mid s2.1 s3.1 := by
      split at m3
      · next hc2 =>
        obtain ⟨s5, m5, m6⟩ := pb_inr m3
        injection m6 with m6
        subst m6
        have e5 := mNum_w m5
        subst hc2
        have hc' : 0 ≤ s.1 2 ∧ s.1 2 ≤ 2 := by
          rcases hN with ⟨-, z, -⟩ | ⟨-, z, -⟩ | ⟨-, -, z⟩
          · omega
          · omega
          · subst z
            have g : 0 ≤ s.1 2 ∧ s.1 2 < 3 := hc
            omega
        have e2 : s2.1 2 = s.1 2 := b2 2 (by decide)
        have z : Mid s5.1 (udI s5.1 (9 + s5.1 2).toNat (s5.2.2 0)) := Mid.rf.ud (by rw [e5, e2]; omega)
        exact (Mid.of e5).tr z
      · injection m3 with m3
        subst m3
        exact Mid.rf
    refine (a2.tr a3).tr ?_
    have z : Mid s3.1 (udI s3.1 c.toNat (s3.1 c.toNat + 1)) := Mid.rf.ud (by rcases hN with ⟨rfl, rfl, rfl⟩ | ⟨rfl, rfl, rfl⟩ | ⟨rfl, rfl, rfl⟩ <;> decide)
    exact z.tr (Mid.of e4)
theorem mDo_mid {s s1 : PS} (h3 : 1 ≤ s.1 3 ∧ s.1 3 ≤ 24) (hm : mDo b n s = .inr s1) : Mid s.1 s1.1 := by
  unfold mDo at hm
  obtain ⟨s2, m2, hm⟩ := pb_inr hm
  have e4 := mSem_w hm
  refine Mid.tr ?_ (Mid.of e4)
  split at m2
  · obtain ⟨s5, m5, m6⟩ := pb_inr m2
    injection m6 with m6
    subst m6
    have e5 : s5.1 = s.1 := (mThr_w m5 : s5.1 = (adv b n s).1)
    show Mid s.1 (acsW s5.1 _ _ _)
    rw [e5]
    exact acsW_mid h3
  · injection m2 with m2
    subst m2
    exact Mid.rf
theorem mWh_mid {s s1 : PS} (h3 : 1 ≤ s.1 3 ∧ s.1 3 ≤ 24) (hm : mWh b n s = .inr s1) : Mid s.1 s1.1 := by
  unfold mWh at hm
  obtain ⟨s2, m2, hm⟩ := pb_inr hm
  split at m2
  · obtain ⟨s5, m5, m6⟩ := pb_inr m2
    injection m6 with m6
    subst m6
    have e5 : s5.1 = s.1 := (mThr_w m5 : s5.1 = (adv b n s).1)
    have g : Mid s.1 (gdW s5.1 (s5.2.2 3) (s5.2.2 4) (s5.2.2 5)) := by
      rw [e5]
      exact gdW_mid h3
    refine g.tr (mDo_mid ?_ hm)
    show 1 ≤ gdW s5.1 _ _ _ 3 ∧ gdW s5.1 _ _ _ 3 ≤ 24
    have o : ∀ x y z, gdW s5.1 x y z 3 = s5.1 3 := fun x y z => by
      rw [e5]
      unfold gdW udI
      rw [if_neg (by omega), if_neg (by omega), if_neg (by omega)]
    rw [o, e5]
    exact h3
  · injection m2 with m2
    subst m2
    exact mDo_mid h3 hm
theorem mTrs_mid {s s1 : PS} (hW : WFb s.1) (hm : mTrs b n s = .inr s1) : Mid s.1 s1.1 := by
  unfold mTrs at hm
  split at hm
  · cases hm
  · next hne =>
    have h3 := hW.2.2.2.1
    obtain ⟨s2, m2, hm⟩ := pb_inr hm
    obtain ⟨s3, m3, hm⟩ := pb_inr hm
    obtain ⟨s4, m4, hm⟩ := pb_inr hm
    obtain ⟨s5, m5, hm⟩ := pb_inr hm
    have e : s5.1 = s.1 := (mKn_w m5).trans ((mWb_w m4).trans ((mKn_w m3).trans (mKn_w m2 : s2.1 = (adv b n s).1)))
    have g : Mid s.1 (ldW s5.1 (s5.2.2 0) (s5.2.2 1) (s5.2.2 2)) := by
      rw [e]
      exact ldW_mid (by omega)
    refine g.tr (mWh_mid ?_ hm)
    show 1 ≤ ldW s5.1 (s5.2.2 0) (s5.2.2 1) (s5.2.2 2) 3 ∧ ldW s5.1 (s5.2.2 0) (s5.2.2 1) (s5.2.2 2) 3 ≤ 24
    have o : ∀ x y z, ldW s5.1 x y z 3 = s5.1 3 + 1 := fun x y z => rfl
    rw [o, e]
    omega
theorem mInv_mid {g : Int} {s s1 : PS} (hW : WFb s.1) (hm : mInv b n g s = .inr s1) : Mid s.1 s1.1 := by
  unfold mInv at hm
  split at hm
  · cases hm
  · next hne =>
    have h4 := hW.2.2.2.2
    obtain ⟨s2, m2, hm⟩ := pb_inr hm
    have e2 : s2.1 = s.1 := by
      split at m2
      · injection m2 with m2
        rw [← m2]
        rfl
      · exact (mKn_w m2 : s2.1 = (setN (adv b n s) 0 (-1)).1)
    unfold mIv2 at hm
    obtain ⟨s3, m3, hm⟩ := pb_inr hm
    have e3 : s3.1 = s.1 := (mThr_w m3).trans e2
    have e4 := mSem_w hm
    have z : Mid s.1 (keepW s3.1 (s3.2.2 0) (s3.2.2 1) (s3.2.2 2) (s3.2.2 3)) := by
      rw [e3]
      exact keepW_mid (by omega)
    exact z.tr (Mid.of e4)
end A

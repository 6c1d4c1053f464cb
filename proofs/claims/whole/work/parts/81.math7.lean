/-! a machine that was loaded is well formed -/
section A
variable {w : Nat → Int} {b : Nat → Int} {n : Int}
theorem mStm_mid {s s1 : PS} (hW : WFb s.1) (hm : mStm b n s = .inr s1) : Mid s.1 s1.1 := by
  unfold mStm at hm
  split at hm
  · exact mNmd_mid (Or.inl ⟨rfl, rfl, rfl⟩) hW hm
  split at hm
  · exact mNmd_mid (Or.inr (Or.inl ⟨rfl, rfl, rfl⟩)) hW hm
  split at hm
  · exact mNmd_mid (Or.inr (Or.inr ⟨rfl, rfl, rfl⟩)) hW hm
  split at hm
  · exact mTrs_mid hW hm
  split at hm
  · exact mInv_mid hW hm
  split at hm
  · exact mInv_mid hW hm
  · cases hm
theorem mTxG_ok (h7 : n ≤ 700) : ∀ (f : Nat) (s s1 : PS), TR s.2.1 → WFm s.1 → mTxG b n f s = .inr s1 → WFm s1.1 ∧ Mid s.1 s1.1 := by
  intro f
  induction f with
  | zero =>
    intro s s1 hT hW hm
    injection hm with hm
    subst hm
    exact ⟨hW, Mid.rf⟩
  | succ f ih =>
    intro s s1 hT hW hm
    unfold mTxG at hm
    split at hm
    · injection hm with hm
      subst hm
      exact ⟨hW, Mid.rf⟩
    · obtain ⟨s2, m2, hm⟩ := pb_inr hm
      have g := mStm_G h7 hT m2
      have z := ih s2 s1 g.1.1 (mStm_W h7 hT hW m2) hm
      exact ⟨z.1, (mStm_mid hW.1 m2).tr z.2⟩
/-- what loading comes to -/
def ldM (u : Nat → Int) : Nat → Int := udI (g2sW u) 59 1
theorem mTxt_ok (h7 : n ≤ 700) {nn : Nat → Int} {s : PS} (hm : mTxt b n w nn = .inr s) : WFd (ldM s.1) 1 ∧ (1 ≤ s.1 0 ∧ 1 ≤ s.1 1 ∧ 1 ≤ s.1 2) ∧ ∀ y, 504 ≤ y → ldM s.1 y = w y := by
  unfold mTxt at hm
  obtain ⟨s2, m2, hm⟩ := pb_inr hm
  have hq := mTxG_ok h7 701 (zr w 0 504, tok b n 0, nn) s2 (tok_r h7 (by decide)) WFm_0 m2
  unfold mEnd at hm
  split at hm
  · cases hm
  · next h0 =>
    split at hm
    · injection hm with hm
      subst hm
      obtain ⟨hW, hM⟩ := hq
      have v := hW.1
      have o : ∀ y : Nat, y ≠ 59 → ldM s2.1 y = g2sW s2.1 y := fun y hy => if_neg hy
      have i0 := hW.2.1 0 (by decide) (by decide)
      have i1 := hW.2.1 1 (by decide) (by decide)
      have i2 := hW.2.1 2 (by decide) (by decide)
      have zz : ∀ y : Nat, (12 ≤ y ∧ y ≤ 92) → s2.1 y = 0 := fun y hy => (hM y (by omega)).trans (if_pos ⟨by omega, by omega⟩)
      have e18 : ldM s2.1 18 = 0 := rfl
      refine ⟨⟨hW.ag (fun y hy => (o y (by omega)).trans (g2sW_o (by omega))), ⟨by show 0 ≤ (0 : Int) ∧ (0 : Int) ≤ 9; decide, i0, i1, i2⟩, by rw [e18]; decide, fun y hy => ?_, Or.inl rfl, fun k hk => ?_⟩, ⟨by have := v.1; omega, by have := v.2.1; omega, by have := v.2.2.1; omega⟩, fun y hy => ?_⟩
      · by_cases e : y = 59
        · subst e
          show 0 ≤ (1 : Int) ∧ (1 : Int) ≤ 1
          decide
        · rw [o y e, g2sW_o (by omega), zz y (by omega)]
          decide
      · rw [e18] at hk
        omega
      · rw [o y (by omega), g2sW_o (by omega), hM y (by omega)]
        exact if_neg (by omega)
    · cases hm
end A

/-! reading keeps the machine well formed: transitions, invariants, statements -/
section A
variable {w : Nat → Int} {b : Nat → Int} {n : Int}
/-- cells of rows alone have changed -/
theorem WFm.rows {u : Nat → Int} (hW : WFm w) (h3 : 0 ≤ u 3 ∧ u 3 ≤ 24) (h4 : 0 ≤ u 4 ∧ u 4 ≤ 12) (ho : ∀ y : Nat, y ≠ 3 → y ≠ 4 → (y < 93 ∨ 357 ≤ y) → u y = w y) (ht : ∀ t, 0 ≤ t → t < u 3 → WFtr u t) (hi : ∀ i, 0 ≤ i → i < u 4 → WFiv u i) : WFm u := by
  obtain ⟨⟨v0, v1, v2, v3, v4⟩, wi, ⟨n0, n1, n2⟩, wt, wv⟩ := hW
  have e0 := ho 0 (by decide) (by decide) (by decide)
  have e1 := ho 1 (by decide) (by decide) (by decide)
  have e2 := ho 2 (by decide) (by decide) (by decide)
  refine ⟨⟨by rw [e0]; exact v0, by rw [e1]; exact v1, by rw [e2]; exact v2, h3, h4⟩, fun i q1 q2 => by rw [ho _ (by omega) (by omega) (by omega)]; exact wi i q1 q2, ⟨fun i q1 q2 => ?_, fun i q1 q2 => ?_, fun i q1 q2 => ?_⟩, ht, hi⟩
  · rw [ho _ (by omega) (by omega) (by omega)]; exact n0 i q1 (by omega)
  · rw [ho _ (by omega) (by omega) (by omega)]; exact n1 i q1 (by omega)
  · rw [ho _ (by omega) (by omega) (by omega)]; exact n2 i q1 (by omega)
theorem ldW_W {x y z : Int} (hW : WFm w) (h3 : w 3 < 24) (hx : 0 ≤ x ∧ x < w 0) (hy : 0 ≤ y ∧ y < w 1) (hz : 0 ≤ z ∧ z < w 0) : WFm (ldW w x y z) ∧ ldW w x y z 3 = w 3 + 1 ∧ tr (ldW w x y z) (w 3) 6 = -1 := by
  obtain ⟨⟨v0, v1, v2, v3, v4⟩, wi, wn, wt, wv⟩ := id hW
  have e3 : ldW w x y z 3 = w 3 + 1 := by unfold ldW udI; rw [if_pos rfl]
  have eo : ∀ g : Nat, g ≠ 3 → ((g : Int) < 93 + 9 * w 3 ∨ 93 + 9 * w 3 + 8 < g) → ldW w x y z g = w g := fun g q1 q2 => by
    unfold ldW udI
    rw [if_neg q1, if_neg (by omega), if_neg (by omega), if_neg (by omega), if_neg (by omega), if_neg (by omega)]
  have t0 : tr (ldW w x y z) (w 3) 0 = x := by
    unfold tr ldW udI
    rw [if_neg (by omega), if_neg (by omega), if_neg (by omega), if_neg (by omega), if_neg (by omega), if_pos rfl]
  have t1 : tr (ldW w x y z) (w 3) 1 = y := by
    unfold tr ldW udI
    rw [if_neg (by omega), if_neg (by omega), if_neg (by omega), if_neg (by omega), if_pos rfl]
  have t2 : tr (ldW w x y z) (w 3) 2 = z := by
    unfold tr ldW udI
    rw [if_neg (by omega), if_neg (by omega), if_neg (by omega), if_pos rfl]
  have t3 : tr (ldW w x y z) (w 3) 3 = -1 := by
    unfold tr ldW udI
    rw [if_neg (by omega), if_neg (by omega), if_pos rfl]
  have t6 : tr (ldW w x y z) (w 3) 6 = -1 := by
    unfold tr ldW udI
    rw [if_neg (by omega), if_pos rfl]
  have e0 := eo 0 (by decide) (by omega)
  have e1 := eo 1 (by decide) (by omega)
  have e2 := eo 2 (by decide) (by omega)
  have e4 := eo 4 (by decide) (by omega)
  refine ⟨hW.rows (by rw [e3]; omega) (by rw [e4]; exact v4) (fun g q1 q2 q3 => eo g q1 (by omega)) (fun t q1 q2 => ?_) (fun i q1 q2 => ?_), e3, t6⟩
  · rw [e3] at q2
    by_cases e : t = w 3
    · subst e
      unfold WFtr
      rw [t0, t1, t2, t3, t6, e0, e1]
      exact ⟨hx, hy, hz, Or.inl rfl, Or.inl rfl⟩
    · exact (wt t q1 (by omega)).ex (by omega) (by omega) (by omega) (fun j z1 z2 => eo _ (by omega) (by omega))
  · rw [e4] at q2
    exact (wv i q1 q2).ex (by omega) (by omega) (fun j z1 z2 => eo _ (by omega) (by omega))
theorem gdW_W {x y z : Int} (hW : WFm w) (h3 : 1 ≤ w 3) (hx : 0 ≤ x ∧ x < w 2) (hy : 0 ≤ y ∧ y ≤ 5) (hz : 0 ≤ z ∧ z ≤ 9) : WFm (gdW w x y z) := by
  obtain ⟨⟨v0, v1, v2, v3, v4⟩, wi, wn, wt, wv⟩ := id hW
  have eo : ∀ g : Nat, ((g : Int) < 93 + 9 * (w 3 - 1) + 3 ∨ 93 + 9 * (w 3 - 1) + 5 < g) → gdW w x y z g = w g := fun g q2 => by
    unfold gdW udI
    rw [if_neg (by omega), if_neg (by omega), if_neg (by omega)]
  have t3 : tr (gdW w x y z) (w 3 - 1) 3 = x := by
    unfold tr gdW udI
    rw [if_neg (by omega), if_neg (by omega), if_pos rfl]
  have t4 : tr (gdW w x y z) (w 3 - 1) 4 = y := by
    unfold tr gdW udI
    rw [if_neg (by omega), if_pos rfl]
  have t5 : tr (gdW w x y z) (w 3 - 1) 5 = z := by
    unfold tr gdW udI
    rw [if_pos rfl]
  have e0 := eo 0 (by omega)
  have e1 := eo 1 (by omega)
  have e2 := eo 2 (by omega)
  have e3 := eo 3 (by omega)
  have e4 := eo 4 (by omega)
  refine hW.rows (by rw [e3]; exact v3) (by rw [e4]; exact v4) (fun g q1 q2 q3 => eo g (by omega)) (fun t q1 q2 => ?_) (fun i q1 q2 => ?_)
  · rw [e3] at q2
    have g := wt t q1 q2
    by_cases e : t = w 3 - 1
    · subst e
      unfold WFtr at g ⊢
      have f0 : tr (gdW w x y z) (w 3 - 1) 0 = tr w (w 3 - 1) 0 := eo _ (by omega)
      have f1 : tr (gdW w x y z) (w 3 - 1) 1 = tr w (w 3 - 1) 1 := eo _ (by omega)
      have f2 : tr (gdW w x y z) (w 3 - 1) 2 = tr w (w 3 - 1) 2 := eo _ (by omega)
      have f6 : tr (gdW w x y z) (w 3 - 1) 6 = tr w (w 3 - 1) 6 := eo _ (by omega)
      have f7 : tr (gdW w x y z) (w 3 - 1) 7 = tr w (w 3 - 1) 7 := eo _ (by omega)
      have f8 : tr (gdW w x y z) (w 3 - 1) 8 = tr w (w 3 - 1) 8 := eo _ (by omega)
      rw [t3, t4, t5, e0, e1, e2, f0, f1, f2, f6, f7, f8]
      exact ⟨g.1, g.2.1, g.2.2.1, Or.inr ⟨hx, hy, hz⟩, g.2.2.2.2⟩
    · exact g.ex (by omega) (by omega) (by omega) (fun j z1 z2 => eo _ (by omega))
  · rw [e4] at q2
    exact (wv i q1 q2).ex (by omega) (by omega) (fun j z1 z2 => eo _ (by omega))
theorem acsW_W {x y z : Int} (hW : WFm w) (h3 : 1 ≤ w 3) (hx : 0 ≤ x ∧ x < w 2) (hy : 0 ≤ y ∧ y ≤ 2) (hz : 0 ≤ z ∧ z ≤ 9) : WFm (acsW w x y z) := by
  obtain ⟨⟨v0, v1, v2, v3, v4⟩, wi, wn, wt, wv⟩ := id hW
  have eo : ∀ g : Nat, ((g : Int) < 93 + 9 * (w 3 - 1) + 6 ∨ 93 + 9 * (w 3 - 1) + 8 < g) → acsW w x y z g = w g := fun g q2 => by
    unfold acsW udI
    rw [if_neg (by omega), if_neg (by omega), if_neg (by omega)]
  have t3 : tr (acsW w x y z) (w 3 - 1) 6 = x := by
    unfold tr acsW udI
    rw [if_neg (by omega), if_neg (by omega), if_pos rfl]
  have t4 : tr (acsW w x y z) (w 3 - 1) 7 = y := by
    unfold tr acsW udI
    rw [if_neg (by omega), if_pos rfl]
  have t5 : tr (acsW w x y z) (w 3 - 1) 8 = z := by
    unfold tr acsW udI
    rw [if_pos rfl]
  have e0 := eo 0 (by omega)
  have e1 := eo 1 (by omega)
  have e2 := eo 2 (by omega)
  have e3 := eo 3 (by omega)
  have e4 := eo 4 (by omega)
  refine hW.rows (by rw [e3]; exact v3) (by rw [e4]; exact v4) (fun g q1 q2 q3 => eo g (by omega)) (fun t q1 q2 => ?_) (fun i q1 q2 => ?_)
  · rw [e3] at q2
    have g := wt t q1 q2
    by_cases e : t = w 3 - 1
    · subst e
      unfold WFtr at g ⊢
      have f0 : tr (acsW w x y z) (w 3 - 1) 0 = tr w (w 3 - 1) 0 := eo _ (by omega)
      have f1 : tr (acsW w x y z) (w 3 - 1) 1 = tr w (w 3 - 1) 1 := eo _ (by omega)
      have f2 : tr (acsW w x y z) (w 3 - 1) 2 = tr w (w 3 - 1) 2 := eo _ (by omega)
      have f6 : tr (acsW w x y z) (w 3 - 1) 3 = tr w (w 3 - 1) 3 := eo _ (by omega)
      have f7 : tr (acsW w x y z) (w 3 - 1) 4 = tr w (w 3 - 1) 4 := eo _ (by omega)
      have f8 : tr (acsW w x y z) (w 3 - 1) 5 = tr w (w 3 - 1) 5 := eo _ (by omega)
      rw [t3, t4, t5, e0, e1, e2, f0, f1, f2, f6, f7, f8]
      exact ⟨g.1, g.2.1, g.2.2.1, g.2.2.2.1, Or.inr ⟨hx, hy, hz⟩⟩
    · exact g.ex (by omega) (by omega) (by omega) (fun j z1 z2 => eo _ (by omega))
  · rw [e4] at q2
    exact (wv i q1 q2).ex (by omega) (by omega) (fun j z1 z2 => eo _ (by omega))
theorem keepW_W {s x y z : Int} (hW : WFm w) (h4 : w 4 < 12) (hs : s = -1 ∨ (0 ≤ s ∧ s < w 0)) (hx : 0 ≤ x ∧ x < w 2) (hy : 0 ≤ y ∧ y ≤ 5) (hz : 0 ≤ z ∧ z ≤ 9) : WFm (keepW w s x y z) := by
  obtain ⟨⟨v0, v1, v2, v3, v4⟩, wi, wn, wt, wv⟩ := id hW
  have e4 : keepW w s x y z 4 = w 4 + 1 := by unfold keepW udI; rw [if_pos rfl]
  have eo : ∀ g : Nat, g ≠ 4 → ((g : Int) < 309 + 4 * w 4 ∨ 309 + 4 * w 4 + 3 < g) → keepW w s x y z g = w g := fun g q1 q2 => by
    unfold keepW udI
    rw [if_neg q1, if_neg (by omega), if_neg (by omega), if_neg (by omega), if_neg (by omega)]
  have t0 : iv (keepW w s x y z) (w 4) 0 = s := by
    unfold iv keepW udI
    rw [if_neg (by omega), if_neg (by omega), if_neg (by omega), if_neg (by omega), if_pos rfl]
  have t1 : iv (keepW w s x y z) (w 4) 1 = x := by
    unfold iv keepW udI
    rw [if_neg (by omega), if_neg (by omega), if_neg (by omega), if_pos rfl]
  have t2 : iv (keepW w s x y z) (w 4) 2 = y := by
    unfold iv keepW udI
    rw [if_neg (by omega), if_neg (by omega), if_pos rfl]
  have t3 : iv (keepW w s x y z) (w 4) 3 = z := by
    unfold iv keepW udI
    rw [if_neg (by omega), if_pos rfl]
  have e0 := eo 0 (by decide) (by omega)
  have e1 := eo 1 (by decide) (by omega)
  have e2 := eo 2 (by decide) (by omega)
  have e3 := eo 3 (by decide) (by omega)
  refine hW.rows (by rw [e3]; exact v3) (by rw [e4]; omega) (fun g q1 q2 q3 => eo g q2 (by omega)) (fun t q1 q2 => ?_) (fun i q1 q2 => ?_)
  · rw [e3] at q2
    exact (wt t q1 q2).ex (by omega) (by omega) (by omega) (fun j z1 z2 => eo _ (by omega) (by omega))
  · rw [e4] at q2
    by_cases e : i = w 4
    · subst e
      unfold WFiv
      rw [t0, t1, t2, t3, e0, e2]
      exact ⟨hs, hx, hy, hz⟩
    · exact (wv i q1 (by omega)).ex (by omega) (by omega) (fun j z1 z2 => eo _ (by omega) (by omega))
theorem mSem_w {s s1 : PS} (hm : mSem b n s = .inr s1) : s1.1 = s.1 := by
  unfold mSem at hm
  split at hm
  · cases hm; rfl
  · cases hm
theorem mDo_W {s s1 : PS} (hW : WFm s.1) (h3 : 1 ≤ s.1 3) (hm : mDo b n s = .inr s1) : WFm s1.1 := by
  unfold mDo at hm
  obtain ⟨s2, m2, hm⟩ := pb_inr hm
  rw [mSem_w hm]
  split at m2
  · obtain ⟨s4, m4, m2⟩ := pb_inr m2
    obtain ⟨a1, a2, a3, a4, -⟩ := mThr_nn (k := 6) (s := adv b n s) (by decide) hW.1.2.2.1.1 m4
    cases m2
    have a1 : s4.1 = s.1 := a1
    show WFm (acsW s4.1 (s4.2.2 6) (s4.2.2 7) (s4.2.2 8))
    rw [a1]
    exact acsW_W hW h3 a2 a3 a4
  · cases m2; exact hW
theorem mWh_W {s s1 : PS} (hW : WFm s.1) (h3 : 1 ≤ s.1 3) (hm : mWh b n s = .inr s1) : WFm s1.1 := by
  unfold mWh at hm
  obtain ⟨s2, m2, hm⟩ := pb_inr hm
  split at m2
  · obtain ⟨s4, m4, m2⟩ := pb_inr m2
    obtain ⟨a1, a2, a3, a4, -⟩ := mThr_nn (k := 3) (s := adv b n s) (by decide) hW.1.2.2.1.1 m4
    cases m2
    have a1 : s4.1 = s.1 := a1
    have e3 : gdW s.1 (s4.2.2 3) (s4.2.2 4) (s4.2.2 5) 3 = s.1 3 := by unfold gdW udI; rw [if_neg (by omega), if_neg (by omega), if_neg (by omega)]
    refine mDo_W (s := (gdW s4.1 (s4.2.2 3) (s4.2.2 4) (s4.2.2 5), s4.2.1, s4.2.2)) ?_ ?_ hm
    · show WFm (gdW s4.1 (s4.2.2 3) (s4.2.2 4) (s4.2.2 5))
      rw [a1]
      exact gdW_W hW h3 a2 a3 a4
    · show 1 ≤ gdW s4.1 (s4.2.2 3) (s4.2.2 4) (s4.2.2 5) 3
      rw [a1, e3]; exact h3
  · cases m2; exact mDo_W hW h3 hm
theorem mTrs_W {s s1 : PS} (hW : WFm s.1) (hm : mTrs b n s = .inr s1) : WFm s1.1 := by
  unfold mTrs at hm
  split at hm
  · cases hm
  next h24 =>
  obtain ⟨s2, m2, hm⟩ := pb_inr hm
  obtain ⟨s3, m3, hm⟩ := pb_inr hm
  obtain ⟨s4, m4, hm⟩ := pb_inr hm
  obtain ⟨s5, m5, hm⟩ := pb_inr hm
  obtain ⟨v0, v1, v2, v3, v4⟩ := hW.1
  obtain ⟨a1, a2, -⟩ := mKn_nn (c := 0) (s := adv b n s) v0.1 m2
  have w2 : s2.1 = s.1 := a1
  obtain ⟨b1, b2, b3⟩ := mKn_nn (c := 1) (show 0 ≤ s2.1 1 by rw [w2]; exact v1.1) m3
  have w3 : s3.1 = s.1 := b1.trans w2
  have w4 : s4.1 = s.1 := (mWb_w m4).trans w3
  have n4 : s4.2.2 = s3.2.2 := by
    unfold mWb at m4
    split at m4
    · cases m4; rfl
    · cases m4
  obtain ⟨c1, c2, c3⟩ := mKn_nn (c := 0) (show 0 ≤ s4.1 0 by rw [w4]; exact v0.1) m5
  have w5 : s5.1 = s.1 := c1.trans w4
  have x0 : s5.2.2 0 = s2.2.2 0 := (c3 0 (by decide)).trans ((congrFun n4 0).trans (b3 0 (by decide)))
  have x1 : s5.2.2 1 = s3.2.2 1 := (c3 1 (by decide)).trans (congrFun n4 1)
  have a2 : 0 ≤ s2.2.2 0 ∧ s2.2.2 0 < s.1 0 := a2
  have b2 : 0 ≤ s3.2.2 1 ∧ s3.2.2 1 < s2.1 1 := b2
  have c2 : 0 ≤ s5.2.2 2 ∧ s5.2.2 2 < s4.1 0 := c2
  rw [w2] at b2
  rw [w4] at c2
  obtain ⟨g1, g2, -⟩ := ldW_W (x := s5.2.2 0) (y := s5.2.2 1) (z := s5.2.2 2) hW (by omega) (by rw [x0]; exact a2) (by rw [x1]; exact b2) c2
  refine mWh_W (s := (ldW s5.1 (s5.2.2 0) (s5.2.2 1) (s5.2.2 2), s5.2.1, s5.2.2)) ?_ ?_ hm
  · show WFm (ldW s5.1 _ _ _)
    rw [w5]; exact g1
  · show 1 ≤ ldW s5.1 (s5.2.2 0) (s5.2.2 1) (s5.2.2 2) 3
    rw [w5, g2]; omega
theorem mInv_W {g : Int} {s s1 : PS} (hW : WFm s.1) (hm : mInv b n g s = .inr s1) : WFm s1.1 := by
  unfold mInv at hm
  split at hm
  · cases hm
  next h12 =>
  obtain ⟨s2, m2, hm⟩ := pb_inr hm
  obtain ⟨v0, v1, v2, v3, v4⟩ := hW.1
  have g2 : s2.1 = s.1 ∧ (s2.2.2 0 = -1 ∨ (0 ≤ s2.2.2 0 ∧ s2.2.2 0 < s.1 0)) := by
    split at m2
    · cases m2; exact ⟨rfl, Or.inl rfl⟩
    · obtain ⟨a1, a2, -⟩ := mKn_nn (c := 0) (s := setN (adv b n s) 0 (-1)) v0.1 m2
      exact ⟨a1, Or.inr a2⟩
  unfold mIv2 at hm
  obtain ⟨s3, m3, hm⟩ := pb_inr hm
  obtain ⟨a1, a2, a3, a4, a5⟩ := mThr_nn (k := 1) (by decide) (show 0 ≤ s2.1 2 by rw [g2.1]; exact v2.1) m3
  have w3 : s3.1 = s.1 := a1.trans g2.1
  rw [mSem_w hm]
  show WFm (keepW s3.1 (s3.2.2 0) (s3.2.2 1) (s3.2.2 2) (s3.2.2 3))
  rw [w3]
  rw [g2.1] at a2
  exact keepW_W hW (by omega) (by rw [a5 0 (by decide)]; exact g2.2) a2 a3 a4
theorem mStm_W (h7 : n ≤ 700) {s s1 : PS} (hT : TR s.2.1) (hW : WFm s.1) (hm : mStm b n s = .inr s1) : WFm s1.1 := by
  unfold mStm at hm
  split at hm
  · exact mNmd_W h7 (Or.inl ⟨rfl, rfl, rfl⟩) hT hW hm
  split at hm
  · exact mNmd_W h7 (Or.inr (Or.inl ⟨rfl, rfl, rfl⟩)) hT hW hm
  split at hm
  · exact mNmd_W h7 (Or.inr (Or.inr ⟨rfl, rfl, rfl⟩)) hT hW hm
  split at hm
  · exact mTrs_W hW hm
  split at hm
  · exact mInv_W hW hm
  split at hm
  · exact mInv_W hW hm
  · cases hm
end A

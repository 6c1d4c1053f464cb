/-! what a setup text leaves is well formed -/
section A
variable {w : Nat → Int} {b : Nat → Int} {n : Int}
def WFtr (w : Nat → Int) (t : Int) : Prop := (0 ≤ tr w t 0 ∧ tr w t 0 < w 0) ∧ (0 ≤ tr w t 1 ∧ tr w t 1 < w 1) ∧ (0 ≤ tr w t 2 ∧ tr w t 2 < w 0)
  ∧ (tr w t 3 = -1 ∨ ((0 ≤ tr w t 3 ∧ tr w t 3 < w 2) ∧ (0 ≤ tr w t 4 ∧ tr w t 4 ≤ 5) ∧ (0 ≤ tr w t 5 ∧ tr w t 5 ≤ 9)))
  ∧ (tr w t 6 = -1 ∨ ((0 ≤ tr w t 6 ∧ tr w t 6 < w 2) ∧ (0 ≤ tr w t 7 ∧ tr w t 7 ≤ 2) ∧ (0 ≤ tr w t 8 ∧ tr w t 8 ≤ 9)))
def WFiv (w : Nat → Int) (i : Int) : Prop := (iv w i 0 = -1 ∨ (0 ≤ iv w i 0 ∧ iv w i 0 < w 0)) ∧ (0 ≤ iv w i 1 ∧ iv w i 1 < w 2) ∧ (0 ≤ iv w i 2 ∧ iv w i 2 ≤ 5) ∧ (0 ≤ iv w i 3 ∧ iv w i 3 ≤ 9)
/-- the machine that w holds is well formed -/
def WFm (w : Nat → Int) : Prop := WFb w ∧ (∀ i : Int, 0 ≤ i → i ≤ 2 → 0 ≤ w (9 + i).toNat ∧ w (9 + i).toNat ≤ 9) ∧ WFn w ∧ (∀ t, 0 ≤ t → t < w 3 → WFtr w t) ∧ ∀ i, 0 ≤ i → i < w 4 → WFiv w i
/-- what stays as long as these cells stay -/
theorem WFtr.ex {u : Nat → Int} {t : Int} (q : WFtr w t) (h0 : w 0 ≤ u 0) (h1 : w 1 ≤ u 1) (h2 : w 2 ≤ u 2) (ht : ∀ j, 0 ≤ j → j < 9 → tr u t j = tr w t j) : WFtr u t := by
  unfold WFtr at q ⊢
  rw [ht 0 (by decide) (by decide), ht 1 (by decide) (by decide), ht 2 (by decide) (by decide), ht 3 (by decide) (by decide), ht 4 (by decide) (by decide), ht 5 (by decide) (by decide), ht 6 (by decide) (by decide), ht 7 (by decide) (by decide), ht 8 (by decide) (by decide)]
  omega
theorem WFiv.ex {u : Nat → Int} {i : Int} (q : WFiv w i) (h0 : w 0 ≤ u 0) (h2 : w 2 ≤ u 2) (ht : ∀ j, 0 ≤ j → j < 4 → iv u i j = iv w i j) : WFiv u i := by
  unfold WFiv at q ⊢
  rw [ht 0 (by decide) (by decide), ht 1 (by decide) (by decide), ht 2 (by decide) (by decide), ht 3 (by decide) (by decide)]
  omega
/-- the numbers that were taken -/
theorem mKn_nn {k f c : Int} {s s1 : PS} (h0 : 0 ≤ s.1 c.toNat) (hm : mKn b n k f c s = .inr s1) : s1.1 = s.1 ∧ (0 ≤ s1.2.2 k.toNat ∧ s1.2.2 k.toNat < s.1 c.toNat) ∧ ∀ y, y ≠ k.toNat → s1.2.2 y = s.2.2 y := by
  unfold mKn at hm
  split at hm
  · cases hm
  · split at hm
    · cases hm
    · next q =>
      cases hm
      refine ⟨rfl, ?_, fun y hy => if_neg hy⟩
      have e : (adv b n (setN s k (nhW s.1 f c b s.2.1))).2.2 k.toNat = nhW s.1 f c b s.2.1 := if_pos rfl
      rw [e]
      have := nhG_r (w := s.1) (b := b) (f := f) (T := s.2.1) (s.1 c.toNat).toNat 0 (Int.le_refl _)
      unfold nhW at q ⊢
      omega
theorem mNum_nn {k : Int} {s s1 : PS} (hm : mNum b n k s = .inr s1) : s1.1 = s.1 ∧ (0 ≤ s1.2.2 k.toNat ∧ s1.2.2 k.toNat ≤ 9) ∧ ∀ y, y ≠ k.toNat → s1.2.2 y = s.2.2 y := by
  unfold mNum at hm
  split at hm
  · cases hm
  · split at hm
    · cases hm
    · next q =>
      cases hm
      refine ⟨rfl, ?_, fun y hy => if_neg hy⟩
      have e : (setN (adv b n s) k s.2.1.2.2.1).2.2 k.toNat = s.2.1.2.2.1 := if_pos rfl
      rw [e]
      omega
theorem opW_r {T : Tk} : opW b T = -1 ∨ (0 ≤ opW b T ∧ opW b T ≤ 5) := by
  unfold opW
  split
  · exact Or.inr ⟨by decide, by decide⟩
  split
  · exact Or.inr ⟨by decide, by decide⟩
  split
  · exact Or.inr ⟨by decide, by decide⟩
  split
  · exact Or.inr ⟨by decide, by decide⟩
  split
  · exact Or.inr ⟨by decide, by decide⟩
  split
  · exact Or.inr ⟨by decide, by decide⟩
  · exact Or.inl rfl
theorem acW_r {T : Tk} : acW b T = -1 ∨ (0 ≤ acW b T ∧ acW b T ≤ 2) := by
  unfold acW
  split
  · exact Or.inr ⟨by decide, by decide⟩
  split
  · exact Or.inr ⟨by decide, by decide⟩
  split
  · exact Or.inr ⟨by decide, by decide⟩
  · exact Or.inl rfl
theorem mThr_nn {k g : Int} {s s1 : PS} (hk : 0 ≤ k) (h2 : 0 ≤ s.1 2) (hm : mThr b n k g s = .inr s1) : s1.1 = s.1 ∧ (0 ≤ s1.2.2 k.toNat ∧ s1.2.2 k.toNat < s.1 2) ∧ (0 ≤ s1.2.2 (k.toNat + 1) ∧ s1.2.2 (k.toNat + 1) ≤ if g = 0 then 2 else 5) ∧ (0 ≤ s1.2.2 (k.toNat + 2) ∧ s1.2.2 (k.toNat + 2) ≤ 9) ∧ ∀ y, y < k.toNat → s1.2.2 y = s.2.2 y := by
  unfold mThr at hm
  obtain ⟨s2, m2, hm⟩ := pb_inr hm
  obtain ⟨s3, m3, hm⟩ := pb_inr hm
  obtain ⟨a1, a2, a3⟩ := mKn_nn (c := 2) h2 m2
  obtain ⟨c1, c2, c3⟩ := mNum_nn hm
  have ek : (k + 2).toNat = k.toNat + 2 := by omega
  have ek1 : (k + 1).toNat = k.toNat + 1 := by omega
  rw [ek] at c2 c3
  unfold mWrd at m3
  split at m3
  · cases m3
  · next q =>
    cases m3
    have b1 : ∀ y, (adv b n (setN s2 (k + 1) (opx b g s2.2.1))).2.2 y = if y = k.toNat + 1 then opx b g s2.2.1 else s2.2.2 y := fun y => by
      show udI s2.2.2 (k + 1).toNat (opx b g s2.2.1) y = _
      rw [ek1]; rfl
    refine ⟨c1.trans a1, ?_, ?_, c2, fun y hy => ?_⟩
    · rw [c3 k.toNat (by omega), b1, if_neg (by omega)]
      exact a2
    · rw [c3 (k.toNat + 1) (by omega), b1, if_pos rfl]
      have e1 := opW_r (b := b) (T := s2.2.1)
      have e2 := acW_r (b := b) (T := s2.2.1)
      have e3 : opx b g s2.2.1 ≠ -1 := fun z => q z
      unfold opx at e3 ⊢
      by_cases e : g = 0
      · rw [if_pos e] at e3 ⊢; rw [if_pos e]; omega
      · rw [if_neg e] at e3 ⊢; rw [if_neg e]; omega
    · rw [c3 y (by omega), b1, if_neg (by omega)]
      exact a3 y (by omega)
theorem ud_tr {t j : Int} {y : Nat} {v : Int} (h : (93 + 9 * t + j).toNat ≠ y) : tr (udI w y v) t j = tr w t j := if_neg h
theorem ud_iv {t j : Int} {y : Nat} {v : Int} (h : (309 + 4 * t + j).toNat ≠ y) : iv (udI w y v) t j = iv w t j := if_neg h
end A

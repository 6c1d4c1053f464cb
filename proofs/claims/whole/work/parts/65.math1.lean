/-! reading goes forward -/
section A
variable {w : Nat → Int} {b : Nat → Int} {n : Int}
def TQ (T : Tk) : Prop := T.2.2.2 ≠ 0 → T.1 < T.2.1
theorem ltE_lt {f : Nat} {p : Int} (h : p ≤ 700) (h7 : n ≤ 700) (hp : 97 ≤ bAt b n p ∧ bAt b n p ≤ 122) (hf : 0 < f) : p < ltE b n f p := by
  cases f with
  | zero => omega
  | succ f =>
    have : p < n := Classical.byContradiction (fun z => by have := bAt_n (b := b) (n := n) (k := p) (by omega); omega)
    have := ltE_r (b := b) (n := n) f (p + 1) (by omega) h7
    simp only [ltE]
    rw [if_pos hp]
    omega
theorem dgE_lt {f : Nat} {p s v : Int} (h : p ≤ 700) (h7 : n ≤ 700) (hp : 48 ≤ bAt b n p ∧ bAt b n p ≤ 57) (hf : 0 < f) : p < (dgE b n s f p v).1 := by
  cases f with
  | zero => omega
  | succ f =>
    have : p < n := Classical.byContradiction (fun z => by have := bAt_n (b := b) (n := n) (k := p) (by omega); omega)
    have := dgE_r (b := b) (n := n) (s := s) f (p + 1) (if p - s < 3 then 10 * v + bAt b n p - 48 else v) (by omega) h7
    simp only [dgE]
    rw [if_pos hp]
    omega
theorem tok_q {p : Int} (h7 : n ≤ 700) (hp : 0 ≤ p ∧ p ≤ 700) : TQ (tok b n p) ∧ p ≤ (tok b n p).1 := by
  obtain ⟨a1, a2⟩ := skW_r (b := b) (n := n) (n - p).toNat p hp.2 h7
  unfold tok
  generalize skW b n (n - p).toNat p = s at a1 a2
  unfold tkF TQ
  split
  · exact ⟨fun z => absurd rfl z, a1⟩
  · next q =>
    have : s < n := Classical.byContradiction (fun z => q (bAt_n (by omega)))
    split
    · next q1 =>
      have := ltE_lt (b := b) (n := n) (f := (n - s).toNat) a2 h7 q1 (by omega)
      exact ⟨fun _ => this, a1⟩
    · split
      · next q2 =>
        have := dgE_lt (b := b) (n := n) (s := s) (v := 0) (f := (n - s).toNat) a2 h7 q2 (by omega)
        exact ⟨fun _ => this, a1⟩
      · exact ⟨fun _ => by show s < s + 1; omega, a1⟩
/-- s1 is a good place, not before s -/
def GG (s s1 : PS) : Prop := TR s1.2.1 ∧ TQ s1.2.1 ∧ s.2.1.1 ≤ s1.2.1.1
theorem GG.tr {s s1 s2 : PS} (a : GG s s1) (c : GG s1 s2) : GG s s2 := ⟨c.1, c.2.1, Int.le_trans a.2.2 c.2.2⟩
theorem adv_G (h7 : n ≤ 700) {s : PS} (hT : TR s.2.1) : GG s (adv b n s) := by
  obtain ⟨t1, t2, t3⟩ := hT
  have q := tok_q (b := b) (n := n) (p := s.2.1.2.1) h7 ⟨by omega, t3⟩
  exact ⟨tok_r h7 ⟨by omega, t3⟩, q.1, by show s.2.1.1 ≤ (tok b n s.2.1.2.1).1; omega⟩
theorem mKn_G (h7 : n ≤ 700) {k f c : Int} {s s1 : PS} (hT : TR s.2.1) (hm : mKn b n k f c s = .inr s1) : GG s s1 := by
  unfold mKn at hm
  split at hm
  · cases hm
  · split at hm
    · cases hm
    · cases hm; exact adv_G h7 (s := setN s k (nhW s.1 f c b s.2.1)) hT
theorem mNum_G (h7 : n ≤ 700) {k : Int} {s s1 : PS} (hT : TR s.2.1) (hm : mNum b n k s = .inr s1) : GG s s1 := by
  unfold mNum at hm
  split at hm
  · cases hm
  · split at hm
    · cases hm
    · cases hm; exact adv_G h7 (s := s) hT
theorem mWrd_G (h7 : n ≤ 700) {x : Int} {s s1 : PS} (hT : TR s.2.1) (hm : mWrd b n x s = .inr s1) : GG s s1 := by
  unfold mWrd at hm
  split at hm
  · cases hm
  · cases hm; exact adv_G h7 hT
theorem mWb_G (h7 : n ≤ 700) {p : Bool} {s s1 : PS} (hT : TR s.2.1) (hm : mWb b n p s = .inr s1) : GG s s1 := by
  unfold mWb at hm
  split at hm
  · cases hm; exact adv_G h7 hT
  · cases hm
theorem mThr_G (h7 : n ≤ 700) {k g : Int} {s s1 : PS} (hT : TR s.2.1) (hm : mThr b n k g s = .inr s1) : GG s s1 := by
  unfold mThr at hm
  cases h1 : mKn b n k 483 2 s with
  | inl e => rw [h1] at hm; cases hm
  | inr s2 =>
    rw [h1] at hm
    simp only [pb] at hm
    have g1 := mKn_G h7 hT h1
    cases h2 : mWrd b n (if opx b g s2.2.1 = -1 then 0 else 1) (setN s2 (k + 1) (opx b g s2.2.1)) with
    | inl e => rw [h2] at hm; cases hm
    | inr s3 =>
      rw [h2] at hm
      have g2 := mWrd_G h7 (s := setN s2 (k + 1) (opx b g s2.2.1)) g1.1 h2
      exact (g1.tr (show GG s2 s3 from g2)).tr (mNum_G h7 g2.1 hm)
theorem mSem_G (h7 : n ≤ 700) {s s1 : PS} (hT : TR s.2.1) (hQ : TQ s.2.1) (hm : mSem b n s = .inr s1) : GG s s1 ∧ s.2.1.1 < s1.2.1.1 ∧ s1.1 = s.1 := by
  unfold mSem at hm
  split at hm
  · next q =>
    cases hm
    obtain ⟨t1, t2, t3⟩ := hT
    have q1 := tok_q (b := b) (n := n) (p := s.2.1.2.1) h7 ⟨by omega, t3⟩
    have q2 : s.2.1.1 < s.2.1.2.1 := hQ (by omega)
    exact ⟨adv_G h7 ⟨t1, t2, t3⟩, by show s.2.1.1 < (tok b n s.2.1.2.1).1; omega, rfl⟩
  · cases hm
theorem mNew_G (h7 : n ≤ 700) {f c : Int} {s s1 : PS} (hT : TR s.2.1) (hm : mNew b n f c s = .inr s1) : GG s s1 := by
  unfold mNew at hm
  split at hm
  · cases hm
  · split at hm
    · cases hm
    · cases hm; exact adv_G h7 (s := (naW s.1 (f + 7 * s.1 c.toNat) b s.2.1, s.2.1, s.2.2)) hT
theorem pb_inr {m : PM} {f : PS → PM} {s1 : PS} (h : pb m f = .inr s1) : ∃ s, m = .inr s ∧ f s = .inr s1 := by
  cases m with
  | inl e => cases h
  | inr s => exact ⟨s, rfl, h⟩
theorem mNmd_G (h7 : n ≤ 700) {f c m : Int} {s s1 : PS} (hT : TR s.2.1) (hm : mNmd b n f c m s = .inr s1) : GG s s1 ∧ s.2.1.1 < s1.2.1.1 := by
  unfold mNmd at hm
  split at hm
  · cases hm
  · obtain ⟨s2, m2, hm⟩ := pb_inr hm
    obtain ⟨s3, m3, hm⟩ := pb_inr hm
    have g1 := adv_G (b := b) h7 (s := s) hT
    have g2 := g1.tr (mNew_G h7 g1.1 m2)
    have g3 : GG s2 s3 ∧ True := by
      split at m3
      · obtain ⟨s4, m4, m3⟩ := pb_inr m3
        cases m3
        have g9 : GG s2 s4 := mNum_G h7 g2.1 m4
        exact ⟨g9, trivial⟩
      · cases m3
        exact ⟨⟨g2.1, g2.2.1, Int.le_refl _⟩, trivial⟩
    have g4 := g2.tr g3.1
    obtain ⟨a1, a2, -⟩ := mSem_G h7 (s := (udI s3.1 c.toNat (s3.1 c.toNat + 1), s3.2.1, s3.2.2)) g4.1 g4.2.1 hm
    exact ⟨g4.tr a1, by have a2 : s3.2.1.1 < s1.2.1.1 := a2; have := g4.2.2; omega⟩
theorem mDo_G (h7 : n ≤ 700) {s s1 : PS} (hT : TR s.2.1) (hQ : TQ s.2.1) (hm : mDo b n s = .inr s1) : GG s s1 ∧ s.2.1.1 < s1.2.1.1 := by
  unfold mDo at hm
  obtain ⟨s3, m3, hm⟩ := pb_inr hm
  have g3 : GG s s3 := by
    split at m3
    · obtain ⟨s4, m4, m3⟩ := pb_inr m3
      cases m3
      have g1 := adv_G (b := b) h7 (s := s) hT
      have g9 : GG (adv b n s) s4 := mThr_G h7 g1.1 m4
      exact g1.tr g9
    · cases m3
      exact ⟨hT, hQ, Int.le_refl _⟩
  obtain ⟨a1, a2, -⟩ := mSem_G h7 g3.1 g3.2.1 hm
  exact ⟨g3.tr a1, by have := g3.2.2; omega⟩
theorem mWh_G (h7 : n ≤ 700) {s s1 : PS} (hT : TR s.2.1) (hQ : TQ s.2.1) (hm : mWh b n s = .inr s1) : GG s s1 ∧ s.2.1.1 < s1.2.1.1 := by
  unfold mWh at hm
  obtain ⟨s3, m3, hm⟩ := pb_inr hm
  have g3 : GG s s3 := by
    split at m3
    · obtain ⟨s4, m4, m3⟩ := pb_inr m3
      cases m3
      have g1 := adv_G (b := b) h7 (s := s) hT
      have g9 : GG (adv b n s) s4 := mThr_G h7 g1.1 m4
      exact g1.tr g9
    · cases m3
      exact ⟨hT, hQ, Int.le_refl _⟩
  obtain ⟨a1, a2⟩ := mDo_G h7 g3.1 g3.2.1 hm
  exact ⟨g3.tr a1, by have := g3.2.2; omega⟩
theorem mTrs_G (h7 : n ≤ 700) {s s1 : PS} (hT : TR s.2.1) (hm : mTrs b n s = .inr s1) : GG s s1 ∧ s.2.1.1 < s1.2.1.1 := by
  unfold mTrs at hm
  split at hm
  · cases hm
  · obtain ⟨s2, m2, hm⟩ := pb_inr hm
    obtain ⟨s3, m3, hm⟩ := pb_inr hm
    obtain ⟨s4, m4, hm⟩ := pb_inr hm
    obtain ⟨s5, m5, hm⟩ := pb_inr hm
    have g1 := adv_G (b := b) h7 (s := s) hT
    have g2 := g1.tr (mKn_G h7 g1.1 m2)
    have g3 := g2.tr (mKn_G h7 g2.1 m3)
    have g4 := g3.tr (mWb_G h7 g3.1 m4)
    have g5 := g4.tr (mKn_G h7 g4.1 m5)
    obtain ⟨a1, a2⟩ := mWh_G h7 (s := (ldW s5.1 (s5.2.2 0) (s5.2.2 1) (s5.2.2 2), s5.2.1, s5.2.2)) g5.1 g5.2.1 hm
    exact ⟨g5.tr a1, by have a2 : s5.2.1.1 < s1.2.1.1 := a2; have := g5.2.2; omega⟩
theorem mInv_G (h7 : n ≤ 700) {g : Int} {s s1 : PS} (hT : TR s.2.1) (hm : mInv b n g s = .inr s1) : GG s s1 ∧ s.2.1.1 < s1.2.1.1 := by
  unfold mInv at hm
  split at hm
  · cases hm
  · obtain ⟨s2, m2, hm⟩ := pb_inr hm
    have g1 := adv_G (b := b) h7 (s := s) hT
    have g2 : GG s s2 := by
      split at m2
      · cases m2; exact g1
      · exact g1.tr (mKn_G h7 (s := setN (adv b n s) 0 (-1)) g1.1 m2)
    unfold mIv2 at hm
    obtain ⟨s3, m3, hm⟩ := pb_inr hm
    have g3 := g2.tr (mThr_G h7 g2.1 m3)
    obtain ⟨a1, a2, -⟩ := mSem_G h7 (s := (keepW s3.1 (s3.2.2 0) (s3.2.2 1) (s3.2.2 2) (s3.2.2 3), s3.2.1, s3.2.2)) g3.1 g3.2.1 hm
    exact ⟨g3.tr a1, by have a2 : s3.2.1.1 < s1.2.1.1 := a2; have := g3.2.2; omega⟩
theorem mStm_G (h7 : n ≤ 700) {s s1 : PS} (hT : TR s.2.1) (hm : mStm b n s = .inr s1) : GG s s1 ∧ s.2.1.1 < s1.2.1.1 := by
  unfold mStm at hm
  split at hm
  · exact mNmd_G h7 hT hm
  split at hm
  · exact mNmd_G h7 hT hm
  split at hm
  · exact mNmd_G h7 hT hm
  split at hm
  · exact mTrs_G h7 hT hm
  split at hm
  · exact mInv_G h7 hT hm
  split at hm
  · exact mInv_G h7 hT hm
  · cases hm
end A

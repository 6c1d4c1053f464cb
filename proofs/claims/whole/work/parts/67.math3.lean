/-! reading keeps the machine well formed -/
section A
variable {w : Nat → Int} {b : Nat → Int} {n : Int}
theorem naG_o2 {c : Int} {T : Tk} {y : Nat} (hy : c + 6 < y ∧ 0 ≤ c) : ∀ (f : Nat) (i : Int) (w : Nat → Int), 0 ≤ i → i + f ≤ 6 → naG c b T f i w y = w y
  | 0, _, _, _, _ => rfl
  | f + 1, i, w, h, h2 => by
    show naG c b T f (i + 1) _ y = w y
    rw [naG_o2 hy f (i + 1) _ (by omega) (by omega)]
    exact if_neg (by omega)
theorem naW_o2 {c : Int} {T : Tk} {y : Nat} (hy : c + 6 < y ∧ 0 ≤ c) : naW w c b T y = w y := by
  unfold naW
  rw [naG_o2 hy 6 0 _ (by omega) (by omega)]
  exact if_neg (by omega)
theorem naW_c {c : Int} {T : Tk} (hc : 0 ≤ c) : naW w c b T c.toNat = T.2.1 - T.1 := by
  unfold naW
  rw [naG_o ⟨by omega, hc⟩ 6 0 _ (by omega)]
  exact if_pos rfl
/-- a new name: the lengths stay in bounds when the count goes up -/
theorem WFn_new {f c m : Int} {T : Tk} (hN : NC f c m) (hW : WFb w) (hn : WFn w) (hT : TR T) (h6 : T.2.1 - T.1 ≤ 6) (hm : w c.toNat < m) {u : Nat → Int} (hu : ∀ y : Nat, 357 ≤ y → u y = naW w (f + 7 * w c.toNat) b T y) (h0 : u 0 = w 0 + (if c = 0 then 1 else 0)) (h1 : u 1 = w 1 + (if c = 1 then 1 else 0)) (h2 : u 2 = w 2 + (if c = 2 then 1 else 0)) : WFn u := by
  obtain ⟨n0, n1, n2⟩ := hn
  obtain ⟨v0, v1, v2, -, -⟩ := hW
  obtain ⟨t1, t2, t3⟩ := hT
  have key : ∀ g : Int, 357 ≤ g → g ≤ 503 → (g < f + 7 * w c.toNat ∨ f + 7 * w c.toNat + 6 < g) → 0 ≤ f + 7 * w c.toNat → u g.toNat = w g.toNat := fun g q1 q2 q3 q4 => by
    rw [hu _ (by omega)]
    rcases q3 with q3 | q3
    · exact naW_o ⟨by omega, q4⟩
    · exact naW_o2 ⟨by omega, q4⟩
  have own : 357 ≤ f + 7 * w c.toNat → u (f + 7 * w c.toNat).toNat = T.2.1 - T.1 := fun q => by
    rw [hu _ (by omega), naW_c (by omega)]
  rcases hN with ⟨e1, e2, e3⟩ | ⟨e1, e2, e3⟩ | ⟨e1, e2, e3⟩
  · subst e1; subst e2; subst e3
    rw [if_pos rfl] at h0
    rw [if_neg (by decide)] at h1 h2
    have hm : w 0 < 10 := hm
    have key : ∀ g : Int, 357 ≤ g → g ≤ 503 → (g < 357 + 7 * w 0 ∨ 357 + 7 * w 0 + 6 < g) → 0 ≤ 357 + 7 * w 0 → u g.toNat = w g.toNat := key
    have own : 357 ≤ 357 + 7 * w 0 → u (357 + 7 * w 0).toNat = T.2.1 - T.1 := own
    refine ⟨fun i q1 q2 => ?_, fun i q1 q2 => ?_, fun i q1 q2 => ?_⟩
    · by_cases e : i = w 0
      · subst e; rw [own (by omega)]; omega
      · rw [key _ (by omega) (by omega) (by omega) (by omega)]; exact n0 i q1 (by omega)
    · rw [key _ (by omega) (by omega) (by omega) (by omega)]; exact n1 i q1 (by omega)
    · rw [key _ (by omega) (by omega) (by omega) (by omega)]; exact n2 i q1 (by omega)
  · subst e1; subst e2; subst e3
    rw [if_neg (by decide)] at h0 h2
    rw [if_pos rfl] at h1
    have hm : w 1 < 8 := hm
    have key : ∀ g : Int, 357 ≤ g → g ≤ 503 → (g < 427 + 7 * w 1 ∨ 427 + 7 * w 1 + 6 < g) → 0 ≤ 427 + 7 * w 1 → u g.toNat = w g.toNat := key
    have own : 357 ≤ 427 + 7 * w 1 → u (427 + 7 * w 1).toNat = T.2.1 - T.1 := own
    refine ⟨fun i q1 q2 => ?_, fun i q1 q2 => ?_, fun i q1 q2 => ?_⟩
    · rw [key _ (by omega) (by omega) (by omega) (by omega)]; exact n0 i q1 (by omega)
    · by_cases e : i = w 1
      · subst e; rw [own (by omega)]; omega
      · rw [key _ (by omega) (by omega) (by omega) (by omega)]; exact n1 i q1 (by omega)
    · rw [key _ (by omega) (by omega) (by omega) (by omega)]; exact n2 i q1 (by omega)
  · subst e1; subst e2; subst e3
    rw [if_neg (by decide)] at h0 h1
    rw [if_pos rfl] at h2
    have hm : w 2 < 3 := hm
    have key : ∀ g : Int, 357 ≤ g → g ≤ 503 → (g < 483 + 7 * w 2 ∨ 483 + 7 * w 2 + 6 < g) → 0 ≤ 483 + 7 * w 2 → u g.toNat = w g.toNat := key
    have own : 357 ≤ 483 + 7 * w 2 → u (483 + 7 * w 2).toNat = T.2.1 - T.1 := own
    refine ⟨fun i q1 q2 => ?_, fun i q1 q2 => ?_, fun i q1 q2 => ?_⟩
    · rw [key _ (by omega) (by omega) (by omega) (by omega)]; exact n0 i q1 (by omega)
    · rw [key _ (by omega) (by omega) (by omega) (by omega)]; exact n1 i q1 (by omega)
    · by_cases e : i = w 2
      · subst e; rw [own (by omega)]; omega
      · rw [key _ (by omega) (by omega) (by omega) (by omega)]; exact n2 i q1 (by omega)
theorem mNmd_W (h7 : n ≤ 700) {f c m : Int} {s s1 : PS} (hN : NC f c m) (hT : TR s.2.1) (hW : WFm s.1) (hm : mNmd b n f c m s = .inr s1) : WFm s1.1 := by
  obtain ⟨wb, wi, wn, wt, wv⟩ := hW
  unfold mNmd at hm
  split at hm
  · cases hm
  next hcm =>
  obtain ⟨s2, m2, hm⟩ := pb_inr hm
  obtain ⟨s3, m3, hm⟩ := pb_inr hm
  have hb2 := mNew_b (s := adv b n s) hN wb m2
  have hTa := (adv_G (b := b) h7 (s := s) hT).1
  unfold mNew at m2
  split at m2
  · cases m2
  next hn6 =>
  split at m2
  · cases m2
  have hn6 : isN (adv b n s).2.1 := Classical.byContradiction hn6
  have e2 : s2.1 = naW s.1 (f + 7 * s.1 c.toNat) b (adv b n s).2.1 := by cases m2; rfl
  have hcr : 0 ≤ c ∧ c ≤ 2 := by unfold NC at hN; omega
  have hcm2 : s.1 c.toNat < m := by
    obtain ⟨v0, v1, v2, -, -⟩ := wb
    rcases hN with ⟨-, q1, q2⟩ | ⟨-, q1, q2⟩ | ⟨-, q1, q2⟩ <;> subst q1 <;> subst q2
    · have hcm : ¬ s.1 0 = 10 := hcm; show s.1 0 < 10; omega
    · have hcm : ¬ s.1 1 = 8 := hcm; show s.1 1 < 8; omega
    · have hcm : ¬ s.1 2 = 3 := hcm; show s.1 2 < 3; omega
  -- s3: as s2, but for one initial value
  have e3 : (∀ y : Nat, y < 9 → s3.1 y = s2.1 y) ∧ (∀ y : Nat, 12 ≤ y → s3.1 y = s2.1 y) ∧ ∀ i : Int, 0 ≤ i → i ≤ 2 → 0 ≤ s3.1 (9 + i).toNat ∧ s3.1 (9 + i).toNat ≤ 9 := by
    have i2 : ∀ i : Int, 0 ≤ i → i ≤ 2 → 0 ≤ s2.1 (9 + i).toNat ∧ s2.1 (9 + i).toNat ≤ 9 := fun i q1 q2 => by
      rw [hb2 _ (by omega)]; exact wi i q1 q2
    split at m3
    · next hc2 =>
      obtain ⟨s4, m4, m3⟩ := pb_inr m3
      obtain ⟨a1, a2, -⟩ := mNum_nn m4
      have hs : s3.1 = udI s4.1 (9 + s4.1 2).toNat (s4.2.2 0) := by cases m3; rfl
      have h42 : s4.1 2 = s.1 2 := by rw [a1]; exact hb2 2 (by decide)
      have hv := wb.2.2.1
      have hc3 : s.1 2 < 3 := by
        rcases hN with ⟨-, q1, q2⟩ | ⟨-, q1, q2⟩ | ⟨-, q1, q2⟩
        · omega
        · omega
        · subst q1; subst q2; exact hcm2
      rw [hs, a1] at *
      refine ⟨fun y q => if_neg (by omega), fun y q => if_neg (by omega), fun i q1 q2 => ?_⟩
      unfold udI
      split
      · exact a2
      · exact i2 i q1 q2
    · cases m3
      exact ⟨fun _ _ => rfl, fun _ _ => rfl, i2⟩
  obtain ⟨e3a, e3b, e3c⟩ := e3
  have hs1 : s1.1 = udI s3.1 c.toNat (s3.1 c.toNat + 1) := by
    unfold mSem at hm
    split at hm
    · cases hm; rfl
    · cases hm
  have e3w : ∀ y : Nat, y < 9 → s3.1 y = s.1 y := fun y q => (e3a y q).trans (hb2 y (by omega))
  have e3v : ∀ y : Nat, 12 ≤ y → y < 357 → s3.1 y = s.1 y := fun y q q1 => (e3b y q).trans (hb2 y q1)
  have hcnt : ∀ y : Nat, y ≤ 4 → s1.1 y = s.1 y + (if (y : Int) = c then 1 else 0) := fun y q => by
    rw [hs1]
    unfold udI
    by_cases e : y = c.toNat
    · rw [if_pos e, if_pos (by omega), e3w _ (by omega), e]
    · rw [if_neg e, if_neg (by omega), e3w _ (by omega)]; omega
  have hoth : ∀ y : Nat, 12 ≤ y → y < 357 → s1.1 y = s.1 y := fun y q q1 => by
    rw [hs1]
    unfold udI
    rw [if_neg (by omega)]
    exact e3v y q q1
  have c0 := hcnt 0 (by decide)
  have c1 := hcnt 1 (by decide)
  have c2 := hcnt 2 (by decide)
  have c3 := hcnt 3 (by decide)
  have c4 := hcnt 4 (by decide)
  rw [if_neg (by omega)] at c3 c4
  have d0 : s.1 0 ≤ s1.1 0 := by rw [c0]; split <;> omega
  have d1 : s.1 1 ≤ s1.1 1 := by rw [c1]; split <;> omega
  have d2 : s.1 2 ≤ s1.1 2 := by rw [c2]; split <;> omega
  obtain ⟨v0, v1, v2, v3, v4⟩ := id wb
  refine ⟨?_, fun i q1 q2 => ?_, ?_, fun t q1 q2 => ?_, fun i q1 q2 => ?_⟩
  · unfold WFb
    rw [c3, c4]
    refine ⟨⟨by omega, ?_⟩, ⟨by omega, ?_⟩, ⟨by omega, ?_⟩, by omega, by omega⟩
    · rw [c0]; split
      · next q => rcases hN with ⟨-, z1, z2⟩ | ⟨-, z1, z2⟩ | ⟨-, z1, z2⟩ <;> subst z1 <;> subst z2 <;> first | (have hcm2 : s.1 0 < 10 := hcm2; omega) | (exact absurd q (by decide))
      · omega
    · rw [c1]; split
      · next q => rcases hN with ⟨-, z1, z2⟩ | ⟨-, z1, z2⟩ | ⟨-, z1, z2⟩ <;> subst z1 <;> subst z2 <;> first | (have hcm2 : s.1 1 < 8 := hcm2; omega) | (exact absurd q (by decide))
      · omega
    · rw [c2]; split
      · next q => rcases hN with ⟨-, z1, z2⟩ | ⟨-, z1, z2⟩ | ⟨-, z1, z2⟩ <;> subst z1 <;> subst z2 <;> first | (have hcm2 : s.1 2 < 3 := hcm2; omega) | (exact absurd q (by decide))
      · omega
  · rw [hs1]
    unfold udI
    rw [if_neg (by omega)]
    exact e3c i q1 q2
  · refine WFn_new (b := b) hN wb wn hTa hn6.2 hcm2 (u := s1.1) (fun y q => ?_) (by rw [c0]; congr 1; by_cases z : c = 0 <;> simp [z] <;> omega) (by rw [c1]; congr 1; by_cases z : c = 1 <;> simp [z] <;> omega) (by rw [c2]; congr 1; by_cases z : c = 2 <;> simp [z] <;> omega)
    rw [hs1]
    unfold udI
    rw [if_neg (by omega), e3b y (by omega), e2]
  · exact (wt t q1 (by omega)).ex d0 d1 d2 (fun j z1 z2 => hoth _ (by omega) (by omega))
  · exact (wv i q1 (by omega)).ex d0 d2 (fun j z1 z2 => hoth _ (by omega) (by omega))
end A

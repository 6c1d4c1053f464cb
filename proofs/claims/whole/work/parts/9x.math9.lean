/-! what the class's search tells is what the reference finds -/
section A
variable {w : Nat → Int} {S : BS} {L M G H : Nat → Int} {p : Int → Int}
/-- the first of a list that is p tells -/
def ffP (L G : Nat → Int) (p : Int → Int) : Nat → Int → Int
  | 0, _ => -1
  | n + 1, k => if p (L k.toNat) = 1 then G (L k.toNat).toNat else ffP L G p n (k + 1)
theorem ffP_no : ∀ (n : Nat) (k : Int), 0 ≤ k → (∀ i : Nat, k ≤ i → (i : Int) < k + n → p (L i) ≠ 1) → ffP L G p n k = -1
  | 0, _, _, _ => rfl
  | n + 1, k, h0, h => by
    simp only [ffP]
    rw [if_neg (h k.toNat (by omega) (by omega)), ffP_no n (k + 1) (by omega) (fun i h1 h2 => h i (by omega) (by omega))]
theorem ffP_hit : ∀ (n : Nat) (k : Int), 0 ≤ k → (∀ i : Nat, k ≤ i → (i : Int) < k + n → M i = L i ∧ H (L i).toNat = G (L i).toNat) → (∃ i : Nat, k ≤ i ∧ (i : Int) < k + n ∧ p (L i) = 1) → ffP M H p (n + 1) k = ffP L G p n k
  | 0, k, _, _, hh => by
    obtain ⟨i, h1, h2, -⟩ := hh
    omega
  | n + 1, k, h0, h, hh => by
    obtain ⟨e1, e2⟩ := h k.toNat (by omega) (by omega)
    show (if p (M k.toNat) = 1 then H (M k.toNat).toNat else ffP M H p (n + 1) (k + 1)) = if p (L k.toNat) = 1 then G (L k.toNat).toNat else ffP L G p n (k + 1)
    rw [e1, e2]
    by_cases z : p (L k.toNat) = 1
    · rw [if_pos z, if_pos z]
    · rw [if_neg z, if_neg z]
      refine ffP_hit n (k + 1) (by omega) (fun i h1 h2 => h i (by omega) (by omega)) ?_
      obtain ⟨i, h1, h2, h3⟩ := hh
      refine ⟨i, ?_, by omega, h3⟩
      have : (i : Int) ≠ k := fun y => z (by rw [show k.toNat = i by omega]; exact h3)
      omega
theorem ffP_new {c : Int} : ∀ (n : Nat) (k : Int), 0 ≤ k → (∀ i : Nat, k ≤ i → (i : Int) < k + n → p (M i) ≠ 1) → M (k + n).toNat = c → p c = 1 → ffP M H p (n + 1) k = H c.toNat
  | 0, k, h0, _, h1, h2 => by
    have h1 : M k.toNat = c := by rw [← h1]; exact congrArg M (by omega)
    show (if p (M k.toNat) = 1 then H (M k.toNat).toNat else _) = _
    rw [h1, if_pos h2]
  | n + 1, k, h0, h, h1, h2 => by
    show (if p (M k.toNat) = 1 then H (M k.toNat).toNat else ffP M H p (n + 1) (k + 1)) = _
    rw [if_neg (h k.toNat (by omega) (by omega))]
    exact ffP_new n (k + 1) (by omega) (fun i g1 g2 => h i (by omega) (by omega)) (by rw [← h1]; exact congrArg M (by omega)) h2
theorem ffP_in : ∀ (n : Nat) (k : Int), 0 ≤ k → (∃ i : Nat, k ≤ i ∧ (i : Int) < k + n ∧ p (L i) = 1) → ∃ i : Nat, k ≤ i ∧ (i : Int) < k + n ∧ p (L i) = 1 ∧ ffP L G p n k = G (L i).toNat ∧ ∀ j : Nat, k ≤ j → j < i → p (L j) ≠ 1
  | 0, k, _, hh => by
    obtain ⟨i, h1, h2, -⟩ := hh
    omega
  | n + 1, k, h0, hh => by
    by_cases z : p (L k.toNat) = 1
    · exact ⟨k.toNat, by omega, by omega, z, if_pos z, fun j j1 j2 => by omega⟩
    · obtain ⟨i, h1, h2, h3⟩ := hh
      have : (i : Int) ≠ k := fun y => z (by rw [show k.toNat = i by omega]; exact h3)
      obtain ⟨i1, g1, g2, g3, g4, g5⟩ := ffP_in n (k + 1) (by omega) ⟨i, by omega, by omega, h3⟩
      refine ⟨i1, by omega, by omega, g3, (if_neg z).trans g4, fun j j1 j2 => ?_⟩
      by_cases y : (j : Int) = k
      · rw [show j = k.toNat by omega]; exact z
      · exact g5 j (by omega) j2
def pst (st : Int) : Int → Int := fun x => if x / 1000 = st then 1 else 0
theorem pst_1 {st x : Int} : pst st x = 1 ↔ x / 1000 = st := by
  unfold pst
  split
  · next z => exact ⟨fun _ => z, fun _ => rfl⟩
  · next z => exact ⟨fun y => absurd y (by decide), fun y => absurd y z⟩
theorem stB_f {st : Int} : ∀ (n : Nat) (k : Int), stB S st n k = ffP S.2.1 S.1 (pst st) n k
  | 0, _ => rfl
  | n + 1, k => by
    unfold stB ffP
    rw [stB_f n (k + 1)]
    by_cases z : S.2.1 k.toNat / 1000 = st
    · rw [if_pos z, if_pos (pst_1.2 z)]
    · rw [if_neg z, if_neg (fun y => z (pst_1.1 y))]
theorem sdG_f : ∀ (n : Nat) (k : Int), sdG w S n k = ffP S.2.1 S.1 (fun x => b2i (stk w x)) n k
  | 0, _ => rfl
  | n + 1, k => by
    unfold sdG ffP
    rw [sdG_f n (k + 1)]
/-- the states' answers of a search so far -/
def SI (X : XC) : Prop := ∀ st : Int, 0 ≤ st → st < 10 → X.2.2.1 st.toNat = ffP X.1.2.1 X.1.1 (pst st) X.1.2.2.toNat 0 ∧ X.2.2.2.1 st.toNat = ffP X.1.2.1 X.2.1 (pst st) X.1.2.2.toNat 0
theorem SI.fn {X : XC} {c m e : Int} (q : SI X) (hB : BI X.1) (hc : 0 ≤ c ∧ c ≤ 9999) (hm : 0 ≤ m) : SI (fnC X c m e) := by
  unfold fnC
  by_cases z : X.1.1 c.toNat = -1
  · rw [if_pos z]
    have N0 := hB.n
    have er : rc X.1 c m = (udI X.1.1 c.toNat m, udI X.1.2.1 X.1.2.2.toNat c, X.1.2.2 + 1) := if_pos z
    rw [er]
    intro st h1 h2
    have en : (X.1.2.2 + 1).toNat = X.1.2.2.toNat + 1 := by omega
    have cs : 0 ≤ c / 1000 ∧ c / 1000 < 10 := by omega
    have ag : ∀ (F : Nat → Int) (v : Int), ∀ i : Nat, (0 : Int) ≤ i → (i : Int) < 0 + (X.1.2.2.toNat : Nat) → udI X.1.2.1 X.1.2.2.toNat c i = X.1.2.1 i ∧ udI F c.toNat v (X.1.2.1 i).toNat = F (X.1.2.1 i).toNat := fun F v i i1 i2 => by
      obtain ⟨b1, b2, b3⟩ := hB.2.2 i (by omega)
      refine ⟨if_neg (by omega), if_neg (fun y => b3 (by rw [y]; exact z))⟩
    have lc : udI X.1.2.1 X.1.2.2.toNat c (0 + (X.1.2.2.toNat : Int)).toNat = c := if_pos (by omega)
    obtain ⟨q1, q2⟩ := q st h1 h2
    show (if X.2.2.1 (c / 1000).toNat = -1 then udI X.2.2.1 (c / 1000).toNat m else X.2.2.1) st.toNat = ffP (udI X.1.2.1 X.1.2.2.toNat c) (udI X.1.1 c.toNat m) (pst st) (X.1.2.2 + 1).toNat 0 ∧ (if X.2.2.1 (c / 1000).toNat = -1 then udI X.2.2.2.1 (c / 1000).toNat e else X.2.2.2.1) st.toNat = ffP (udI X.1.2.1 X.1.2.2.toNat c) (udI X.2.1 c.toNat e) (pst st) (X.1.2.2 + 1).toNat 0
    rw [en]
    by_cases hit : ∃ i : Nat, (0 : Int) ≤ i ∧ (i : Int) < 0 + (X.1.2.2.toNat : Nat) ∧ pst st (X.1.2.1 i) = 1
    · rw [ffP_hit _ _ (Int.le_refl _) (ag X.1.1 m) hit, ffP_hit _ _ (Int.le_refl _) (ag X.2.1 e) hit, ← q1, ← q2]
      have nz : X.2.2.1 st.toNat ≠ -1 := by
        obtain ⟨i, i1, i2, i3, i4, -⟩ := ffP_in (G := X.1.1) _ _ (Int.le_refl _) hit
        rw [q1, i4]
        exact (hB.2.2 i (by omega)).2.2
      by_cases y : c / 1000 = st
      · rw [y, if_neg nz, if_neg nz]
        exact ⟨rfl, rfl⟩
      · have ny : ¬ st.toNat = (c / 1000).toNat := by omega
        refine ⟨?_, ?_⟩
        · split
          · exact if_neg ny
          · rfl
        · split
          · exact if_neg ny
          · rfl
    · have nh : ∀ i : Nat, (0 : Int) ≤ i → (i : Int) < 0 + (X.1.2.2.toNat : Nat) → pst st (X.1.2.1 i) ≠ 1 := fun i i1 i2 i3 => hit ⟨i, i1, i2, i3⟩
      have e1 := q1.trans (ffP_no _ _ (Int.le_refl _) nh)
      have e2 := q2.trans (ffP_no _ _ (Int.le_refl _) nh)
      have nh2 : ∀ i : Nat, (0 : Int) ≤ i → (i : Int) < 0 + (X.1.2.2.toNat : Nat) → pst st (udI X.1.2.1 X.1.2.2.toNat c i) ≠ 1 := fun i i1 i2 => by
        rw [(ag X.1.1 m i i1 i2).1]
        exact nh i i1 i2
      by_cases y : c / 1000 = st
      · rw [ffP_new _ _ (Int.le_refl _) nh2 lc (pst_1.2 y), ffP_new _ _ (Int.le_refl _) nh2 lc (pst_1.2 y), y, if_pos e1, if_pos e1]
        exact ⟨(if_pos rfl).trans (if_pos rfl).symm, (if_pos rfl).trans (if_pos rfl).symm⟩
      · have ny : ¬ st.toNat = (c / 1000).toNat := by omega
        have nh3 : ∀ i : Nat, (0 : Int) ≤ i → (i : Int) < 0 + ((X.1.2.2.toNat + 1 : Nat) : Int) → pst st (udI X.1.2.1 X.1.2.2.toNat c i) ≠ 1 := fun i i1 i2 => by
          by_cases g : (i : Int) < 0 + (X.1.2.2.toNat : Nat)
          · exact nh2 i i1 g
          · rw [show udI X.1.2.1 X.1.2.2.toNat c i = c from if_pos (by omega)]
            exact fun g2 => y (pst_1.1 g2)
        rw [ffP_no _ _ (Int.le_refl _) nh3, ffP_no _ _ (Int.le_refl _) nh3]
        refine ⟨?_, ?_⟩
        · split
          · exact (if_neg ny).trans e1
          · exact e1
        · split
          · exact (if_neg ny).trans e2
          · exact e2
  · rw [if_neg z]
    exact q
theorem SI.ex {c : Int} (hf : WFt w) (h1 : 0 ≤ c ∧ c ≤ 9999) : ∀ (n : Nat) (e : Int) (X : XC), SI X → BI X.1 → X.1.1 c.toNat ≠ -1 → SI (exCG w c n e X)
  | 0, _, _, q, _, _ => q
  | n + 1, e, X, q, hB, hs => by
    obtain ⟨o1, o2⟩ := exC1_ok (e := e) hf h1 hB hs
    refine SI.ex hf h1 n (e + 1) _ ?_ o1 (by rw [o2]; exact hs)
    unfold exC1
    split
    · have := (hB.2.1 c.toNat (by omega)).1
      exact SI.fn (X := tkC X _) q hB (vdt_r hf h1) (by show 0 ≤ X.1.1 c.toNat + 1; omega)
    · exact q
theorem SI.sr (hf : WFt w) : ∀ (n : Nat) (k : Int) (X : XC) (D E : Int), 0 ≤ k → SI X → BI X.1 → SI (srC w n k X D E).1
  | 0, _, _, _, _, _, q, _ => q
  | n + 1, k, X, D, E, hk, q, hB => by
    simp only [srC]
    split
    · next z =>
      obtain ⟨b1, b2, b3⟩ := hB.2.2 k.toNat (by omega)
      exact SI.sr hf n (k + 1) _ _ _ (by omega) (SI.ex hf ⟨b1, b2⟩ _ _ _ q hB b3) (by rw [exCG_1]; exact (exG_ok hf ⟨b1, b2⟩ _ _ _ hB b3).1)
    · exact q
theorem SI_0 : SI X0 := fun st h1 h2 => ⟨rfl, rfl⟩
theorem bfC_U (hf : WFt w) {c st : Int} (h1 : 0 ≤ c ∧ c ≤ 9999) (hs : 0 ≤ st ∧ st < 10) : (bfC w c).1.2.2.1 st.toNat = stp w c st ∧ (bfC w c).1.2.2.2.1 st.toNat = ffP (bfs w c).2.1 (bfC w c).1.2.1 (pst st) (bfs w c).2.2.toNat 0 := by
  have hB : BI (fnC X0 c 0 (-1)).1 := by rw [fnC_1]; exact BI_0.go h1 ⟨Int.le_refl _, Int.le_refl _⟩
  have z := SI.sr hf 10001 0 (fnC X0 c 0 (-1)) 0 (-1) (Int.le_refl _) (SI_0.fn BI_0 h1 (Int.le_refl _)) hB st hs.1 hs.2
  have e : (srC w 10001 0 (fnC X0 c 0 (-1)) 0 (-1)).1.1 = bfs w c := bfC_1
  rw [e] at z
  refine ⟨z.1.trans ?_, z.2⟩
  unfold stp
  rw [stB_f]
end A

/-! what the class's search tells is what the reference finds, II -/
section A
variable {w : Nat → Int}
theorem fnC_T {X : XC} {c m e : Int} : (fnC X c m e).2.2.2.2 = X.2.2.2.2 := by
  unfold fnC
  split <;> rfl
theorem exC1_T {c e : Int} {X : XC} : (exC1 w c e X).2.2.2.2 = if (vdt w c e).1 = 0 then udI X.2.2.2.2 (vdt w c e).2.1.toNat 1 else X.2.2.2.2 := by
  unfold exC1
  by_cases z : (vdt w c e).1 = 0
  · rw [if_pos z, if_pos z, fnC_T]
    rfl
  · rw [if_neg z, if_neg z]
def Ctk (w : Nat → Int) (c t e : Int) : Prop := (vdt w c e).1 = 0 ∧ (vdt w c e).2.1 = t
theorem b2i_cg {p q : Prop} (h : p ↔ q) : b2i p = b2i q := by rw [propext h]
theorem T_ex {c t : Int} {A : Prop} (hW : WFm w) (ht : 0 ≤ t) : ∀ (n : Nat) (e : Int) (X : XC), 0 ≤ e → X.2.2.2.2 t.toNat = b2i (A ∨ ∃ e1, 0 ≤ e1 ∧ e1 < e ∧ Ctk w c t e1) → (exCG w c n e X).2.2.2.2 t.toNat = b2i (A ∨ ∃ e1, 0 ≤ e1 ∧ e1 < e + n ∧ Ctk w c t e1)
  | 0, e, X, h0, h => by
    rw [show e + ((0 : Nat) : Int) = e by omega]
    exact h
  | n + 1, e, X, h0, h => by
    show (exCG w c n (e + 1) (exC1 w c e X)).2.2.2.2 t.toNat = _
    rw [show e + ((n + 1 : Nat) : Int) = e + 1 + n by omega]
    refine T_ex hW ht n (e + 1) _ (by omega) ?_
    rw [exC1_T]
    have hv := vdt_v (w := w) (c := c) (e := e) hW.1.2.2.2.1.1
    by_cases z : (vdt w c e).1 = 0
    · rw [if_pos z]
      have t0 := (hv.2 z).1
      by_cases y : (vdt w c e).2.1 = t
      · rw [y]
        refine (if_pos rfl).trans (b2i_t ?_).symm
        exact Or.inr ⟨e, h0, by omega, z, y⟩
      · refine (if_neg (by omega)).trans (h.trans (b2i_cg ?_))
        refine ⟨fun q => q.imp id (fun ⟨e1, g1, g2, g3⟩ => ⟨e1, g1, by omega, g3⟩), fun q => q.imp id (fun ⟨e1, g1, g2, g3⟩ => ⟨e1, g1, ?_, g3⟩)⟩
        have : e1 ≠ e := fun g => y (by rw [← g]; exact g3.2)
        omega
    · rw [if_neg z]
      refine h.trans (b2i_cg ?_)
      refine ⟨fun q => q.imp id (fun ⟨e1, g1, g2, g3⟩ => ⟨e1, g1, by omega, g3⟩), fun q => q.imp id (fun ⟨e1, g1, g2, g3⟩ => ⟨e1, g1, ?_, g3⟩)⟩
      have : e1 ≠ e := fun g => z (by rw [← g]; exact g3.1)
      omega
theorem Ctk_e {c t : Int} (hW : WFm w) (ht : 0 ≤ t ∧ t < w 3) : (∃ e1 : Int, 0 ≤ e1 ∧ e1 < 0 + (((w 1).toNat : Nat) : Int) ∧ Ctk w c t e1) ↔ Ctk w c t (tr w t 1) := by
  have h1 := hW.1.2.1
  have g := (hW.2.2.2.1 t ht.1 ht.2).2.1
  refine ⟨fun ⟨e1, g1, g2, g3, g4⟩ => ?_, fun q => ⟨tr w t 1, g.1, by omega, q⟩⟩
  have hv := ((vdt_v (w := w) (c := c) (e := e1) hW.1.2.2.2.1.1).2 g3).2.2.2
  rw [g4] at hv
  rw [hv]
  exact ⟨g3, g4⟩
theorem anyA_f {c : Int} : ∀ (n : Nat) (e : Int), anyA w c n e = false ↔ ∀ e1, e ≤ e1 → e1 < e + n → (vdt w c e1).1 ≠ 0
  | 0, e => ⟨fun _ e1 g1 g2 => by omega, fun _ => rfl⟩
  | n + 1, e => by
    simp only [anyA, Bool.or_eq_false_iff, decide_eq_false_iff_not]
    rw [anyA_f n (e + 1)]
    refine ⟨fun ⟨q1, q2⟩ e1 g1 g2 => ?_, fun q => ⟨q e (by omega) (by omega), fun e1 g1 g2 => q e1 (by omega) (by omega)⟩⟩
    by_cases z : e1 = e
    · rw [z]; exact q1
    · exact q2 e1 (by omega) (by omega)
theorem anyA_s {c : Int} (h1 : 0 ≤ w 1) : anyA w c (w 1).toNat 0 = false ↔ stk w c := by
  rw [anyA_f]
  unfold stk
  exact ⟨fun q e g1 g2 => q e g1 (by omega), fun q e g1 g2 => q e g1 (by omega)⟩
theorem dcn_ag {S U : BS} : ∀ n : Nat, (∀ i : Nat, i < n → U.2.1 i = S.2.1 i) → dcn w U n = dcn w S n
  | 0, _ => rfl
  | n + 1, h => by
    show dcn w U n + b2i (stk w (U.2.1 n)) = dcn w S n + b2i (stk w (S.2.1 n))
    rw [dcn_ag n (fun i hi => h i (by omega)), h n (by omega)]
/-- a search when k were expanded -/
def SJ (w : Nat → Int) (X : XC) (D E k : Int) : Prop := (0 ≤ k ∧ k ≤ X.1.2.2) ∧ BI X.1 ∧ (∀ t, 0 ≤ t → t < w 3 → X.2.2.2.2 t.toNat = b2i (∃ i : Nat, (i : Int) < k ∧ Ctk w (X.1.2.1 i) t (tr w t 1))) ∧ D = dcn w X.1 k.toNat ∧ E = ffP X.1.2.1 X.1.1 (fun x => b2i (stk w x)) k.toNat 0
theorem SJ.go {X : XC} {D E k : Int} (hW : WFm w) (q : SJ w X D E k) (hk : k < X.1.2.2) : SJ w (exCG w (X.1.2.1 k.toNat) (w 1).toNat 0 X) (if anyA w (X.1.2.1 k.toNat) (w 1).toNat 0 = false then D + 1 else D) (if anyA w (X.1.2.1 k.toNat) (w 1).toNat 0 = false ∧ E = -1 then X.1.1 (X.1.2.1 k.toNat).toNat else E) (k + 1) := by
  obtain ⟨⟨k0, k1⟩, hB, qT, qD, qE⟩ := q
  obtain ⟨b1, b2, b3⟩ := hB.2.2 k.toNat (by omega)
  have g := exG_ok hW.ft ⟨b1, b2⟩ (w 1).toNat 0 X.1 hB b3
  rw [← exCG_1] at g
  obtain ⟨gB, g1, g2, g3⟩ := g
  have hs := anyA_s (w := w) (c := X.1.2.1 k.toNat) hW.1.2.1.1
  have ek : (k + 1).toNat = k.toNat + 1 := by omega
  refine ⟨⟨by omega, by omega⟩, gB, fun t t0 t1 => ?_, ?_, ?_⟩
  · rw [T_ex (A := ∃ i : Nat, (i : Int) < k ∧ Ctk w (X.1.2.1 i) t (tr w t 1)) hW t0 (w 1).toNat 0 X (Int.le_refl _) ((qT t t0 t1).trans (b2i_cg ⟨Or.inl, fun z => z.elim id (fun ⟨e1, y1, y2, y3⟩ => by omega)⟩))]
    refine b2i_cg ?_
    rw [Ctk_e hW ⟨t0, t1⟩]
    constructor
    · rintro (⟨i, i1, i2⟩ | z)
      · exact ⟨i, by omega, by rw [g2 i (by omega)]; exact i2⟩
      · exact ⟨k.toNat, by omega, by rw [g2 k.toNat (by omega)]; exact z⟩
    · rintro ⟨i, i1, i2⟩
      rw [g2 i (by omega)] at i2
      by_cases z : (i : Int) < k
      · exact Or.inl ⟨i, z, i2⟩
      · right
        rw [show k.toNat = i by omega]
        exact i2
  · rw [ek]
    show _ = dcn w _ k.toNat + b2i (stk w _)
    rw [dcn_ag (S := X.1) k.toNat (fun i hi => g2 i (by omega)), g2 k.toNat (by omega), ← qD]
    by_cases z : anyA w (X.1.2.1 k.toNat) (w 1).toNat 0 = false
    · rw [if_pos z, b2i_t (hs.1 z)]
    · rw [if_neg z, b2i_f (fun y => z (hs.2 y)), Int.add_zero]
  · rw [ek]
    have ag : ∀ i : Nat, (0 : Int) ≤ i → (i : Int) < 0 + (k.toNat : Nat) → (exCG w (X.1.2.1 k.toNat) (w 1).toNat 0 X).1.2.1 i = X.1.2.1 i ∧ (exCG w (X.1.2.1 k.toNat) (w 1).toNat 0 X).1.1 (X.1.2.1 i).toNat = X.1.1 (X.1.2.1 i).toNat := fun i i1 i2 => ⟨g2 i (by omega), g3 _ (hB.2.2 i (by omega)).2.2⟩
    by_cases hit : ∃ i : Nat, (0 : Int) ≤ i ∧ (i : Int) < 0 + (k.toNat : Nat) ∧ (fun x => b2i (stk w x)) (X.1.2.1 i) = 1
    · rw [ffP_hit _ _ (Int.le_refl _) ag hit, ← qE]
      have nz : E ≠ -1 := by
        obtain ⟨i, i1, i2, i3, i4, -⟩ := ffP_in (L := X.1.2.1) (G := X.1.1) (p := fun x => b2i (stk w x)) _ _ (Int.le_refl _) hit
        rw [qE, i4]
        exact (hB.2.2 i (by omega)).2.2
      rw [if_neg (fun y => nz y.2)]
    · have nh : ∀ i : Nat, (0 : Int) ≤ i → (i : Int) < 0 + (k.toNat : Nat) → (fun x => b2i (stk w x)) (X.1.2.1 i) ≠ 1 := fun i i1 i2 i3 => hit ⟨i, i1, i2, i3⟩
      have eE : E = -1 := qE.trans (ffP_no _ _ (Int.le_refl _) nh)
      have nh2 : ∀ i : Nat, (0 : Int) ≤ i → (i : Int) < 0 + (k.toNat : Nat) → (fun x => b2i (stk w x)) ((exCG w (X.1.2.1 k.toNat) (w 1).toNat 0 X).1.2.1 i) ≠ 1 := fun i i1 i2 => by
        rw [(ag i i1 i2).1]
        exact nh i i1 i2
      have lc : (exCG w (X.1.2.1 k.toNat) (w 1).toNat 0 X).1.2.1 (0 + (k.toNat : Int)).toNat = X.1.2.1 k.toNat := by
        rw [show (0 + (k.toNat : Int)).toNat = k.toNat by omega]
        exact g2 k.toNat (by omega)
      by_cases z : anyA w (X.1.2.1 k.toNat) (w 1).toNat 0 = false
      · rw [if_pos ⟨z, eE⟩, ffP_new _ _ (Int.le_refl _) nh2 lc (b2i_t (hs.1 z))]
        exact (g3 _ b3).symm
      · rw [if_neg (fun y => z y.1), eE]
        refine (ffP_no _ _ (Int.le_refl _) (fun i i1 i2 => ?_)).symm
        by_cases y : (i : Int) < 0 + (k.toNat : Nat)
        · exact nh2 i i1 y
        · have e9 : (exCG w (X.1.2.1 k.toNat) (w 1).toNat 0 X).1.2.1 i = X.1.2.1 k.toNat := by
            rw [show i = (0 + (k.toNat : Int)).toNat by omega]
            exact lc
          intro y2
          have y2 : b2i (stk w ((exCG w (X.1.2.1 k.toNat) (w 1).toNat 0 X).1.2.1 i)) = 1 := y2
          rw [e9, b2i_f (fun y => z (hs.2 y))] at y2
          exact absurd y2 (by decide)
theorem SJ.sr (hW : WFm w) : ∀ (n : Nat) (k : Int) (X : XC) (D E : Int), k + n = 10001 → SJ w X D E k → SJ w (srC w n k X D E).1 (srC w n k X D E).2.1 (srC w n k X D E).2.2 (srC w n k X D E).1.1.2.2
  | 0, k, X, D, E, h, q => by
    have := q.1
    have := q.2.1.n
    omega
  | n + 1, k, X, D, E, h, q => by
    simp only [srC]
    split
    · next z => exact SJ.sr hW n (k + 1) _ _ _ (by omega) (q.go hW z)
    · next z =>
      have := q.1.2
      have e : k = X.1.2.2 := by omega
      rw [e] at q
      exact q
theorem bfC_J (hW : WFm w) {c : Int} (h1 : 0 ≤ c ∧ c ≤ 9999) : (∀ t, 0 ≤ t → t < w 3 → (bfC w c).1.2.2.2.2 t.toNat = b2i (ctk w (bfs w c) t)) ∧ (bfC w c).2.1 = dcn w (bfs w c) (bfs w c).2.2.toNat ∧ (bfC w c).2.2 = sdG w (bfs w c) (bfs w c).2.2.toNat 0 := by
  have hB : BI (fnC X0 c 0 (-1)).1 := by rw [fnC_1]; exact BI_0.go h1 ⟨Int.le_refl _, Int.le_refl _⟩
  have q0 : SJ w (fnC X0 c 0 (-1)) 0 (-1) 0 := by
    refine ⟨⟨Int.le_refl _, hB.n.1⟩, hB, fun t t0 t1 => ?_, rfl, rfl⟩
    rw [fnC_T]
    exact (b2i_f (fun ⟨i, i1, _⟩ => by omega)).symm
  have z := SJ.sr hW 10001 0 (fnC X0 c 0 (-1)) 0 (-1) (by omega) q0
  have e : (srC w 10001 0 (fnC X0 c 0 (-1)) 0 (-1)).1.1 = bfs w c := bfC_1
  rw [e] at z
  obtain ⟨-, -, zT, zD, zE⟩ := z
  rw [e] at zT zD zE
  refine ⟨fun t t0 t1 => (zT t t0 t1).trans (b2i_cg ?_), zD, zE.trans ?_⟩
  · unfold ctk
    constructor
    · rintro ⟨i, i1, i2, i3⟩
      exact ⟨i, by omega, i1, i2, i3⟩
    · rintro ⟨k, k0, k1, k2, k3⟩
      exact ⟨k.toNat, by omega, k2, k3⟩
  · rw [sdG_f]
end A

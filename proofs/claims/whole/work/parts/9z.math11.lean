/-! the order in which the search finds -/
section A
variable {w : Nat → Int}
def xL (X : XC) (i : Nat) : Int := X.1.2.1 i
def xs (X : XC) (x : Int) : Int := X.1.1 x.toNat
def xF (X : XC) (x : Int) : Int := X.2.1 x.toNat
def xlab (X : XC) (x e : Int) : Int := if xF X x = -1 then e else xF X x
theorem fn_new {X : XC} {y m e : Int} (hB : BI X.1) (hy : 0 ≤ y ∧ y ≤ 9999) (hn : xs X y = -1) : (fnC X y m e).1.2.2 = X.1.2.2 + 1 ∧ (∀ i : Nat, (i : Int) < X.1.2.2 → xL (fnC X y m e) i = xL X i) ∧ xL (fnC X y m e) X.1.2.2.toNat = y ∧ (∀ x, 0 ≤ x → x ≠ y → xs (fnC X y m e) x = xs X x ∧ xF (fnC X y m e) x = xF X x) ∧ xs (fnC X y m e) y = m ∧ xF (fnC X y m e) y = e := by
  have N0 := hB.n
  have e1 : fnC X y m e = (rc X.1 y m, udI X.2.1 y.toNat e, if X.2.2.1 (y / 1000).toNat = -1 then udI X.2.2.1 (y / 1000).toNat m else X.2.2.1, if X.2.2.1 (y / 1000).toNat = -1 then udI X.2.2.2.1 (y / 1000).toNat e else X.2.2.2.1, X.2.2.2.2) := if_pos hn
  have e2 : rc X.1 y m = (udI X.1.1 y.toNat m, udI X.1.2.1 X.1.2.2.toNat y, X.1.2.2 + 1) := if_pos hn
  unfold xL xs xF
  rw [e1, e2]
  exact ⟨rfl, fun i hi => if_neg (by omega), if_pos rfl, fun x x0 x1 => ⟨if_neg (by omega), if_neg (by omega)⟩, if_pos rfl, if_pos rfl⟩
theorem fn_old {X : XC} {y m e : Int} (hn : xs X y ≠ -1) : fnC X y m e = X := if_neg hn
/-- what was found, when k were expanded and of the next the events before e -/
def BO (w : Nat → Int) (c : Int) (X : XC) (k : Nat) (e : Int) : Prop := (BI X.1 ∧ 0 < X.1.2.2 ∧ xL X 0 = c ∧ xs X c = 0 ∧ xF X c = -1)
  ∧ (∀ i j : Nat, i ≤ j → (j : Int) < X.1.2.2 → xs X (xL X i) ≤ xs X (xL X j) ∧ (xs X (xL X i) = xs X (xL X j) → xF X (xL X i) ≤ xF X (xL X j)))
  ∧ (∀ j : Nat, 1 ≤ j → (j : Int) < X.1.2.2 → (1 ≤ xs X (xL X j) ∧ 0 ≤ xF X (xL X j)) ∧ ∃ i : Nat, i < j ∧ ∃ e1, (0 ≤ e1 ∧ e1 < w 1) ∧ (vdt w (xL X i) e1).1 = 0 ∧ (vdt w (xL X i) e1).2.2 = xL X j ∧ xs X (xL X j) = xs X (xL X i) + 1 ∧ xF X (xL X j) = xlab X (xL X i) e1)
  ∧ (∀ (i : Nat) (e1 : Int), (i < k ∨ (i = k ∧ e1 < e)) → (i : Int) < X.1.2.2 → (0 ≤ e1 ∧ e1 < w 1) → (vdt w (xL X i) e1).1 = 0 → xs X (vdt w (xL X i) e1).2.2 ≠ -1 ∧ xs X (vdt w (xL X i) e1).2.2 ≤ xs X (xL X i) + 1 ∧ (xs X (vdt w (xL X i) e1).2.2 = xs X (xL X i) + 1 → xF X (vdt w (xL X i) e1).2.2 ≤ xlab X (xL X i) e1))
  ∧ ((k : Int) < X.1.2.2 → ∀ j : Nat, (j : Int) < X.1.2.2 → xs X (xL X j) ≤ xs X (xL X k) + 1 ∧ (xs X (xL X j) = xs X (xL X k) + 1 → xF X (xL X j) ≤ xlab X (xL X k) e))
  ∧ ∀ x, 0 ≤ x → x ≤ 9999 → xs X x ≠ -1 → ∃ j : Nat, (j : Int) < X.1.2.2 ∧ xL X j = x
theorem xlab_m {X : XC} {x e f : Int} (h : e ≤ f) : xlab X x e ≤ xlab X x f := by
  unfold xlab
  split
  · exact h
  · exact Int.le_refl _
theorem BO.e1 {c e : Int} {X : XC} {k : Nat} (hW : WFm w) (q : BO w c X k e) (hk : (k : Int) < X.1.2.2) (he : 0 ≤ e ∧ e < w 1) : BO w c (exC1 w (xL X k) e X) k (e + 1) ∧ (exC1 w (xL X k) e X).1.2.2 ≥ X.1.2.2 ∧ xL (exC1 w (xL X k) e X) k = xL X k := by
  obtain ⟨⟨hB, p1, p2, p3, p4⟩, q2, q3, q4, q5, q6⟩ := q
  obtain ⟨b1, b2, b3⟩ := hB.2.2 k hk
  have b1 : 0 ≤ xL X k := b1
  have b2 : xL X k ≤ 9999 := b2
  have hr := vdt_r (e := e) hW.ft ⟨b1, b2⟩
  -- what doesn't change anything
  have same : ∀ Y : XC, Y.1 = X.1 → Y.2.1 = X.2.1 → ((vdt w (xL X k) e).1 = 0 → xs X (vdt w (xL X k) e).2.2 ≠ -1) → BO w c Y k (e + 1) ∧ Y.1.2.2 ≥ X.1.2.2 ∧ xL Y k = xL X k := fun Y y1 y2 hold => by
    have z1 : ∀ i, xL Y i = xL X i := fun i => by unfold xL; rw [y1]
    have z2 : ∀ x, xs Y x = xs X x := fun x => by unfold xs; rw [y1]
    have z3 : ∀ x, xF Y x = xF X x := fun x => by unfold xF; rw [y2]
    have z4 : ∀ x e, xlab Y x e = xlab X x e := fun x e => by unfold xlab; rw [z3]
    refine ⟨⟨⟨by rw [y1]; exact hB, by rw [y1]; exact p1, by rw [z1]; exact p2, by rw [z2]; exact p3, by rw [z3]; exact p4⟩, ?_, ?_, ?_, ?_, ?_⟩, by rw [y1]; exact Int.le_refl _, z1 k⟩
    · intro i j h1 h2
      simp only [z1, z2, z3]
      rw [y1] at h2
      exact q2 i j h1 h2
    · intro j h1 h2
      simp only [z1, z2, z3, z4]
      rw [y1] at h2
      exact q3 j h1 h2
    · intro i e1 h1 h2 h3 h4
      simp only [z1] at h4 ⊢
      simp only [z2, z3, z4]
      rw [y1] at h2
      by_cases g : i = k ∧ e1 = e
      · rw [g.1, g.2] at h4 ⊢
        obtain ⟨j, j1, j2⟩ := q6 _ hr.1 hr.2 (hold h4)
        have a := q5 hk j j1
        rw [j2] at a
        exact ⟨hold h4, a⟩
      · exact q4 i e1 (by omega) h2 h3 h4
    · intro _ j h2
      simp only [z1, z2, z3, z4]
      rw [y1] at h2
      have a := q5 hk j h2
      exact ⟨a.1, fun g => Int.le_trans (a.2 g) (xlab_m (by omega))⟩
    · intro x x0 x1 x2
      simp only [z1]
      rw [z2] at x2
      rw [y1]
      exact q6 x x0 x1 x2
  unfold exC1
  by_cases zv : (vdt w (xL X k) e).1 = 0
  · rw [if_pos zv]
    by_cases zn : xs X (vdt w (xL X k) e).2.2 = -1
    · have hnT : xs (tkC X (vdt w (xL X k) e).2.1) (vdt w (xL X k) e).2.2 = -1 := zn
      have f := fn_new (X := tkC X (vdt w (xL X k) e).2.1) (m := X.1.1 (xL X k).toNat + 1) (e := if X.2.1 (xL X k).toNat = -1 then e else X.2.1 (xL X k).toNat) hB hr hnT
      have hB2 : BI (fnC (tkC X (vdt w (xL X k) e).2.1) (vdt w (xL X k) e).2.2 (X.1.1 (xL X k).toNat + 1) (if X.2.1 (xL X k).toNat = -1 then e else X.2.1 (xL X k).toNat)).1 := by
        rw [fnC_1]
        have := (hB.2.1 (xL X k).toNat (by omega))
        have b3 : X.1.1 (xL X k).toNat ≠ -1 := b3
        exact hB.go hr (by omega)
      have m1 : xs X (xL X k) + 1 = X.1.1 (xL X k).toNat + 1 := rfl
      have m2 : xlab X (xL X k) e = if X.2.1 (xL X k).toNat = -1 then e else X.2.1 (xL X k).toNat := rfl
      rw [← m1, ← m2] at f hB2 ⊢
      generalize fnC (tkC X (vdt w (xL X k) e).2.1) (vdt w (xL X k) e).2.2 (xs X (xL X k) + 1) (xlab X (xL X k) e) = Y at f hB2
      obtain ⟨f1, f2, f3, f4, f5, f6⟩ := f
      have f1 : Y.1.2.2 = X.1.2.2 + 1 := f1
      have f2 : ∀ i : Nat, (i : Int) < X.1.2.2 → xL Y i = xL X i := f2
      have f3 : xL Y X.1.2.2.toNat = (vdt w (xL X k) e).2.2 := f3
      have f4 : ∀ x, 0 ≤ x → x ≠ (vdt w (xL X k) e).2.2 → xs Y x = xs X x ∧ xF Y x = xF X x := f4
      have ne : ∀ x, xs X x ≠ -1 → x ≠ (vdt w (xL X k) e).2.2 := fun x h g => h (by rw [g]; exact zn)
      have fd : ∀ i : Nat, (i : Int) < X.1.2.2 → xs X (xL X i) ≠ -1 ∧ 0 ≤ xL X i := fun i hi => ⟨(hB.2.2 i hi).2.2, (hB.2.2 i hi).1⟩
      have fs : ∀ i : Nat, (i : Int) < X.1.2.2 → xL Y i = xL X i ∧ xs Y (xL X i) = xs X (xL X i) ∧ xF Y (xL X i) = xF X (xL X i) := fun i hi => by
        obtain ⟨g1, g2⟩ := fd i hi
        obtain ⟨g3, g4⟩ := f4 _ g2 (ne _ g1)
        exact ⟨f2 i hi, g3, g4⟩
      have fl2 : ∀ (i : Nat) (e1 : Int), (i : Int) < X.1.2.2 → xlab Y (xL X i) e1 = xlab X (xL X i) e1 := fun i e1 hi => by unfold xlab; rw [(fs i hi).2.2]
      have sk : 0 ≤ xs X (xL X k) := by
        have := (hB.2.1 (xL X k).toNat (by omega)).1
        have g := (fd k hk).1
        unfold xs at g ⊢
        omega
      have lb : 0 ≤ xlab X (xL X k) e := by
        unfold xlab
        split
        · exact he.1
        · next g =>
          by_cases k0 : k = 0
          · rw [k0, p2] at g
            exact absurd p4 g
          · exact (q3 k (by omega) hk).1.2
      have en : (X.1.2.2.toNat : Int) = X.1.2.2 := by omega
      refine ⟨⟨⟨hB2, by omega, (f2 0 p1).trans p2, ?_, ?_⟩, ?_, ?_, ?_, ?_, ?_⟩, by omega, f2 k hk⟩
      · have := (fs 0 p1).2.1
        rw [p2] at this
        exact this.trans p3
      · have := (fs 0 p1).2.2
        rw [p2] at this
        exact this.trans p4
      · intro i j h1 h2
        by_cases g : (j : Int) < X.1.2.2
        · obtain ⟨a1, a2, a3⟩ := fs i (by omega)
          obtain ⟨c1, c2, c3⟩ := fs j g
          rw [a1, c1, a2, c2, a3, c3]
          exact q2 i j h1 g
        · have ej : j = X.1.2.2.toNat := by omega
          rw [ej, f3, f5, f6]
          by_cases gi : (i : Int) < X.1.2.2
          · obtain ⟨a1, a2, a3⟩ := fs i gi
            rw [a1, a2, a3]
            exact q5 hk i gi
          · rw [show i = X.1.2.2.toNat by omega, f3, f5, f6]
            exact ⟨Int.le_refl _, fun _ => Int.le_refl _⟩
      · intro j h1 h2
        by_cases g : (j : Int) < X.1.2.2
        · obtain ⟨c1, c2, c3⟩ := fs j g
          obtain ⟨a, i, i1, e1, i2, i3, i4, i5, i6⟩ := q3 j h1 g
          obtain ⟨a1, a2, a3⟩ := fs i (by omega)
          rw [c1, c2, c3]
          refine ⟨a, i, i1, e1, i2, by rw [a1]; exact i3, by rw [a1]; exact i4, by rw [a1, a2]; exact i5, by rw [a1, fl2 i e1 (by omega)]; exact i6⟩
        · have ej : j = X.1.2.2.toNat := by omega
          obtain ⟨a1, a2, a3⟩ := fs k hk
          rw [ej, f3, f5, f6]
          refine ⟨⟨by omega, lb⟩, k, by omega, e, he, by rw [a1]; exact zv, by rw [a1], by rw [a1, a2], by rw [a1, fl2 k e hk]⟩
      · intro i e1 h1 h2 h3 h4
        by_cases gi : (i : Int) < X.1.2.2
        · obtain ⟨a1, a2, a3⟩ := fs i gi
          rw [a1] at h4 ⊢
          rw [a2, fl2 i e1 gi]
          by_cases g : i = k ∧ e1 = e
          · rw [g.1, g.2, f5, f6]
            exact ⟨by omega, Int.le_refl _, fun _ => Int.le_refl _⟩
          · have a := q4 i e1 (by omega) gi h3 h4
            have hr2 := vdt_r (e := e1) hW.ft (show 0 ≤ xL X i ∧ xL X i ≤ 9999 from ⟨(hB.2.2 i gi).1, (hB.2.2 i gi).2.1⟩)
            obtain ⟨g3, g4⟩ := f4 _ hr2.1 (ne _ a.1)
            rw [g3, g4]
            exact a
        · omega
      · intro _ j h2
        obtain ⟨a1, a2, a3⟩ := fs k hk
        rw [a1, a2, fl2 k (e + 1) hk]
        by_cases g : (j : Int) < X.1.2.2
        · obtain ⟨c1, c2, c3⟩ := fs j g
          rw [c1, c2, c3]
          have a := q5 hk j g
          exact ⟨a.1, fun y => Int.le_trans (a.2 y) (xlab_m (by omega))⟩
        · rw [show j = X.1.2.2.toNat by omega, f3, f5, f6]
          exact ⟨Int.le_refl _, fun _ => xlab_m (by omega)⟩
      · intro x x0 x1 x2
        by_cases g : x = (vdt w (xL X k) e).2.2
        · exact ⟨X.1.2.2.toNat, by omega, by rw [f3, g]⟩
        · rw [(f4 x x0 g).1] at x2
          obtain ⟨j, j1, j2⟩ := q6 x x0 x1 x2
          exact ⟨j, by omega, by rw [f2 j j1]; exact j2⟩
    · have zo : fnC (tkC X (vdt w (xL X k) e).2.1) (vdt w (xL X k) e).2.2 (X.1.1 (xL X k).toNat + 1) (if X.2.1 (xL X k).toNat = -1 then e else X.2.1 (xL X k).toNat) = tkC X (vdt w (xL X k) e).2.1 := fn_old (X := tkC X (vdt w (xL X k) e).2.1) zn
      rw [zo]
      exact same _ rfl rfl (fun _ => zn)
  · rw [if_neg zv]
    exact same X rfl rfl (fun z => absurd z zv)
end A

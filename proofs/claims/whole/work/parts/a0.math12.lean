/-! the order in which the search finds, II: the first event -/
section A
variable {w : Nat → Int}
theorem BO.k1 {c : Int} {X : XC} {k : Nat} (q : BO w c X k (w 1)) (hk : (k : Int) < X.1.2.2) : BO w c X (k + 1) 0 := by
  obtain ⟨⟨hB, p1, p2, p3, p4⟩, q2, q3, q4, q5, q6⟩ := q
  refine ⟨⟨hB, p1, p2, p3, p4⟩, q2, q3, fun i e1 h1 h2 h3 h4 => q4 i e1 (by omega) h2 h3 h4, fun h1 j h2 => ?_, q6⟩
  have a := q5 hk j h2
  have a1 := q5 hk (k + 1) h1
  have s1 := q2 k (k + 1) (by omega) h1
  have n1 := q3 (k + 1) (by omega) h1
  refine ⟨by omega, fun y => ?_⟩
  have e1 : xs X (xL X (k + 1)) = xs X (xL X k) := by omega
  have k1 : 1 ≤ k := by
    rcases Nat.eq_zero_or_pos k with z | z
    · rw [z, p2, p3] at e1
      rw [z] at n1
      omega
    · exact z
  have f1 := (q3 k k1 hk).1.2
  have l1 : xlab X (xL X k) (w 1) = xF X (xL X k) := by unfold xlab; rw [if_neg (by omega)]
  have l2 : xlab X (xL X (k + 1)) 0 = xF X (xL X (k + 1)) := by unfold xlab; rw [if_neg (by omega)]
  have g := a.2 (by omega)
  have g2 := s1.2 e1.symm
  rw [l1] at g
  rw [l2]
  omega
theorem BO.ex {c : Int} {k : Nat} (hW : WFm w) : ∀ (n : Nat) (e : Int) (X : XC), BO w c X k e → (k : Int) < X.1.2.2 → 0 ≤ e → e + n = w 1 → BO w c (exCG w (xL X k) n e X) k (w 1) ∧ X.1.2.2 ≤ (exCG w (xL X k) n e X).1.2.2
  | 0, e, X, q, hk, h0, h1 => by
    rw [show e = w 1 by omega] at q
    exact ⟨q, Int.le_refl _⟩
  | n + 1, e, X, q, hk, h0, h1 => by
    obtain ⟨g1, g2, g3⟩ := q.e1 hW hk ⟨h0, by omega⟩
    have g := BO.ex hW n (e + 1) _ g1 (by omega) (by omega) (by omega)
    rw [g3] at g
    exact ⟨g.1, by have := g.2; show X.1.2.2 ≤ (exCG w (xL X k) n (e + 1) (exC1 w (xL X k) e X)).1.2.2; omega⟩
theorem BO.sr {c : Int} (hW : WFm w) : ∀ (n k : Nat) (X : XC) (D E : Int), k + n = 10001 → (k : Int) ≤ X.1.2.2 → BO w c X k 0 → BO w c (srC w n k X D E).1 (srC w n k X D E).1.1.2.2.toNat 0
  | 0, k, X, D, E, h, h1, q => by
    have := q.1.1.n
    omega
  | n + 1, k, X, D, E, h, h1, q => by
    simp only [srC]
    split
    · next z =>
      have v1 := hW.1.2.1
      have g := BO.ex hW (w 1).toNat 0 X q z (Int.le_refl _) (by omega)
      have g2 := g.1.k1 (by omega)
      have e : X.1.2.1 ((k : Int)).toNat = xL X k := by show _ = X.1.2.1 k; exact congrArg _ (by omega)
      rw [e]
      have e2 : (k : Int) + 1 = ((k + 1 : Nat) : Int) := by omega
      rw [e2]
      exact BO.sr hW n (k + 1) _ _ _ (by omega) (by have := g.2; omega) g2
    · next z =>
      have e : k = X.1.2.2.toNat := by omega
      rw [e] at q
      exact q
theorem bfC_O (hW : WFm w) {c : Int} (h1 : 0 ≤ c ∧ c ≤ 9999) : BO w c (bfC w c).1 (bfC w c).1.1.2.2.toNat 0 := by
  have hB : BI (fnC X0 c 0 (-1)).1 := by rw [fnC_1]; exact BI_0.go h1 ⟨Int.le_refl _, Int.le_refl _⟩
  obtain ⟨f1, f2, f3, f4, f5, f6⟩ := fn_new (X := X0) (m := 0) (e := -1) BI_0 h1 rfl
  have f1 : (fnC X0 c 0 (-1)).1.2.2 = 1 := f1
  have f3 : xL (fnC X0 c 0 (-1)) 0 = c := f3
  refine BO.sr hW 10001 0 (fnC X0 c 0 (-1)) 0 (-1) rfl (by rw [f1]; decide) ⟨⟨hB, by rw [f1]; decide, f3, f5, f6⟩, fun i j i1 i2 => ?_, fun j j1 j2 => by omega, fun i e1 i1 i2 i3 => by omega, fun _ j j1 => ?_, fun x x0 x1 x2 => ?_⟩
  · rw [show i = 0 by omega, show j = 0 by omega]
    exact ⟨Int.le_refl _, fun _ => Int.le_refl _⟩
  · rw [show j = 0 by omega]
    exact ⟨by omega, fun y => by omega⟩
  · by_cases g : x = c
    · exact ⟨0, by rw [f1]; decide, by rw [f3, g]⟩
    · exact absurd (f4 x x0 g).1 x2
/-- a way of n steps -/
def Rp (w : Nat → Int) : Nat → Int → Int → Prop
  | 0, x, y => x = y
  | n + 1, x, y => ∃ e, (0 ≤ e ∧ e < w 1) ∧ (vdt w x e).1 = 0 ∧ Rp w n (vdt w x e).2.2 y
theorem Rp_sn {y e : Int} (he : 0 ≤ e ∧ e < w 1) (hv : (vdt w y e).1 = 0) : ∀ (n : Nat) (x : Int), Rp w n x y → Rp w (n + 1) x (vdt w y e).2.2
  | 0, x, h => by
    have h : x = y := h
    subst h
    exact ⟨e, he, hv, rfl⟩
  | n + 1, x, ⟨f, f1, f2, f3⟩ => ⟨f, f1, f2, Rp_sn he hv n _ f3⟩
theorem Rp_la : ∀ (n : Nat) (x y : Int), Rp w (n + 1) x y → ∃ z e, Rp w n x z ∧ (0 ≤ e ∧ e < w 1) ∧ (vdt w z e).1 = 0 ∧ (vdt w z e).2.2 = y
  | 0, x, y, ⟨f, f1, f2, f3⟩ => ⟨x, f, rfl, f1, f2, f3⟩
  | n + 1, x, y, ⟨f, f1, f2, f3⟩ => by
    obtain ⟨z, e, g1, g2, g3, g4⟩ := Rp_la n _ y f3
    exact ⟨z, e, ⟨f, f1, f2, g1⟩, g2, g3, g4⟩
section B
variable {c : Int} {X : XC}
theorem B1a (hW : WFm w) (h1 : 0 ≤ c ∧ c ≤ 9999) (q : BO w c X X.1.2.2.toNat 0) : ∀ (n : Nat) (y : Int), Rp w n c y → (0 ≤ y ∧ y ≤ 9999) ∧ xs X y ≠ -1 ∧ xs X y ≤ n
  | 0, y, h => by
    have h : c = y := h
    rw [← h, q.1.2.2.2.1]
    exact ⟨h1, by decide, by decide⟩
  | n + 1, y, h => by
    obtain ⟨z, e, g1, g2, g3, g4⟩ := Rp_la n c y h
    obtain ⟨z1, z2, z3⟩ := B1a hW h1 q n z g1
    obtain ⟨i, i1, i2⟩ := q.2.2.2.2.2 z z1.1 z1.2 z2
    have a := q.2.2.2.1 i e (Or.inl (by omega)) i1 g2 (by rw [i2]; exact g3)
    rw [i2, g4] at a
    have := vdt_r (e := e) hW.ft z1
    rw [g4] at this
    exact ⟨this, a.1, by omega⟩
theorem BO.s0 (q : BO w c X X.1.2.2.toNat 0) {j : Nat} (hj : (j : Int) < X.1.2.2) : 0 ≤ xs X (xL X j) := by
  by_cases z : j = 0
  · rw [z, q.1.2.2.1, q.1.2.2.2.1]
    exact Int.le_refl _
  · have := (q.2.2.1 j (by omega) hj).1.1
    omega
theorem B1b (q : BO w c X X.1.2.2.toNat 0) : ∀ (m j : Nat), j < m → (j : Int) < X.1.2.2 → Rp w (xs X (xL X j)).toNat c (xL X j)
  | 0, j, h, _ => by omega
  | m + 1, j, h, hj => by
    by_cases z : j = 0
    · rw [z, q.1.2.2.1, q.1.2.2.2.1]
      rfl
    · obtain ⟨-, i, i1, e, e1, e2, e3, e4, -⟩ := q.2.2.1 j (by omega) hj
      have g := B1b q m i (by omega) (by omega)
      have s := q.s0 (j := i) (by omega)
      rw [e4, show (xs X (xL X i) + 1).toNat = (xs X (xL X i)).toNat + 1 by omega, ← e3]
      exact Rp_sn e1 e2 _ _ g
theorem B2 (q : BO w c X X.1.2.2.toNat 0) : ∀ (m j : Nat), j < m → 1 ≤ j → (j : Int) < X.1.2.2 → (0 ≤ xF X (xL X j) ∧ xF X (xL X j) < w 1) ∧ (vdt w c (xF X (xL X j))).1 = 0 ∧ Rp w (xs X (xL X j) - 1).toNat (vdt w c (xF X (xL X j))).2.2 (xL X j)
  | 0, j, h, _, _ => by omega
  | m + 1, j, h, h1, hj => by
    obtain ⟨-, i, i1, e, e1, e2, e3, e4, e5⟩ := q.2.2.1 j h1 hj
    by_cases z : i = 0
    · rw [z, q.1.2.2.1] at e2 e3 e4 e5
      have l : xlab X c e = e := by unfold xlab; rw [if_pos q.1.2.2.2.2]
      rw [l] at e5
      rw [q.1.2.2.2.1] at e4
      rw [e4, e5]
      exact ⟨e1, e2, e3⟩
    · obtain ⟨g1, g2, g3⟩ := B2 q m i (by omega) (by omega) (by omega)
      have l : xlab X (xL X i) e = xF X (xL X i) := by unfold xlab; rw [if_neg (by omega)]
      rw [l] at e5
      have s := (q.2.2.1 i (by omega) (by omega)).1.1
      rw [e4, e5, show (xs X (xL X i) + 1 - 1).toNat = (xs X (xL X i) - 1).toNat + 1 by omega, ← e3]
      exact ⟨g1, g2, Rp_sn e1 e2 _ _ g3⟩
theorem B2m (hW : WFm w) (h1 : 0 ≤ c ∧ c ≤ 9999) (q : BO w c X X.1.2.2.toNat 0) {e : Int} (he : 0 ≤ e ∧ e < w 1) (hv : (vdt w c e).1 = 0) : ∀ (n : Nat) (y : Int), Rp w n (vdt w c e).2.2 y → xs X y = (n : Int) + 1 → xF X y ≤ e
  | 0, y, h, hs => by
    have h : (vdt w c e).2.2 = y := h
    have a := q.2.2.2.1 0 e (Or.inl (by have := q.1.2.1; omega)) q.1.2.1 he (by rw [q.1.2.2.1]; exact hv)
    rw [q.1.2.2.1, q.1.2.2.2.1, h] at a
    have l : xlab X c e = e := by unfold xlab; rw [if_pos q.1.2.2.2.2]
    rw [l] at a
    exact a.2.2 (by omega)
  | n + 1, y, h, hs => by
    obtain ⟨z, f, g1, g2, g3, g4⟩ := Rp_la n _ y h
    have gz : Rp w (n + 1) c z := ⟨e, he, hv, g1⟩
    obtain ⟨z1, z2, z3⟩ := B1a hW h1 q (n + 1) z gz
    obtain ⟨i, i1, i2⟩ := q.2.2.2.2.2 z z1.1 z1.2 z2
    have a := q.2.2.2.1 i f (Or.inl (by omega)) i1 g2 (by rw [i2]; exact g3)
    rw [i2, g4] at a
    have hz := B2m hW h1 q he hv n z g1 (by omega)
    have i0 : 1 ≤ i := by
      rcases Nat.eq_zero_or_pos i with y0 | y0
      · rw [y0, q.1.2.2.1] at i2
        have := q.1.2.2.2.1
        rw [i2] at this
        omega
      · exact y0
    have fz := (q.2.2.1 i i0 i1).1.2
    rw [i2] at fz
    have l : xlab X z f = xF X z := by unfold xlab; rw [if_neg (by omega)]
    rw [l] at a
    have := a.2.2 (by omega)
    omega
end B
/-- the steps to a state -/
theorem stp_le (hW : WFm w) {c st y : Int} (h1 : 0 ≤ c ∧ c ≤ 9999) (hs : 0 ≤ st ∧ st < 10) {n : Nat} (hy : Rp w n c y) (ys : y / 1000 = st) : 0 ≤ stp w c st ∧ stp w c st ≤ n := by
  have q := bfC_O hW h1
  obtain ⟨y1, y2, y3⟩ := B1a hW h1 q n y hy
  obtain ⟨j, j1, j2⟩ := q.2.2.2.2.2 y y1.1 y1.2 y2
  have e : stp w c st = ffP (bfC w c).1.1.2.1 (bfC w c).1.1.1 (pst st) (bfC w c).1.1.2.2.toNat 0 := by
    rw [bfC_1]
    unfold stp
    rw [stB_f]
  obtain ⟨i, i1, i2, i3, i4, i5⟩ := ffP_in (L := (bfC w c).1.1.2.1) (G := (bfC w c).1.1.1) (p := pst st) (bfC w c).1.1.2.2.toNat 0 (Int.le_refl _) ⟨j, by omega, by omega, pst_1.2 (by show xL (bfC w c).1 j / 1000 = st; rw [j2]; exact ys)⟩
  have i6 : i ≤ j := Classical.byContradiction (fun z => i5 j (by omega) (by omega) (pst_1.2 (by show xL (bfC w c).1 j / 1000 = st; rw [j2]; exact ys)))
  have i4 : stp w c st = xs (bfC w c).1 (xL (bfC w c).1 i) := e.trans i4
  have a := (q.2.1 i j i6 j1).1
  have b := q.s0 (j := i) (by omega)
  rw [j2] at a
  omega
theorem stp_in (hW : WFm w) {c st : Int} (h1 : 0 ≤ c ∧ c ≤ 9999) (hs : 0 ≤ st ∧ st < 10) (h : stp w c st ≠ -1) : ∃ i : Nat, (i : Int) < (bfC w c).1.1.2.2 ∧ xL (bfC w c).1 i / 1000 = st ∧ stp w c st = xs (bfC w c).1 (xL (bfC w c).1 i) ∧ (bfC w c).1.2.2.2.1 st.toNat = xF (bfC w c).1 (xL (bfC w c).1 i) ∧ ∀ j : Nat, j < i → xL (bfC w c).1 j / 1000 ≠ st := by
  have e : stp w c st = ffP (bfC w c).1.1.2.1 (bfC w c).1.1.1 (pst st) (bfC w c).1.1.2.2.toNat 0 := by
    rw [bfC_1]
    unfold stp
    rw [stB_f]
  have e2 := (bfC_U hW.ft h1 hs).2
  rw [← bfC_1] at e2
  by_cases hit : ∃ i : Nat, (0 : Int) ≤ i ∧ (i : Int) < 0 + ((bfC w c).1.1.2.2.toNat : Nat) ∧ pst st ((bfC w c).1.1.2.1 i) = 1
  · obtain ⟨i, i1, i2, i3, i4, i5⟩ := ffP_in (L := (bfC w c).1.1.2.1) (G := (bfC w c).1.1.1) (p := pst st) _ _ (Int.le_refl _) hit
    obtain ⟨k, k1, k2, k3, k4, k5⟩ := ffP_in (L := (bfC w c).1.1.2.1) (G := (bfC w c).1.2.1) (p := pst st) _ _ (Int.le_refl _) hit
    have ik : i = k := by
      rcases Nat.lt_trichotomy i k with z | z | z
      · exact absurd i3 (k5 i i1 z)
      · exact z
      · exact absurd k3 (i5 k k1 z)
    subst ik
    exact ⟨i, by omega, pst_1.1 i3, e.trans i4, e2.trans k4, fun j hj z => i5 j (by omega) hj (pst_1.2 z)⟩
  · exact absurd (e.trans (ffP_no _ _ (Int.le_refl _) (fun i i1 i2 i3 => hit ⟨i, i1, i2, i3⟩))) h
theorem fevG_e {c st m e0 : Int} (h0 : (vdt w c e0).1 = 0 ∧ stp w (vdt w c e0).2.2 st = m - 1) : ∀ (n : Nat) (e : Int), e ≤ e0 → e0 < e + n → (∀ e1, e ≤ e1 → e1 < e0 → ¬ ((vdt w c e1).1 = 0 ∧ stp w (vdt w c e1).2.2 st = m - 1)) → fevG w c st m n e = e0
  | 0, e, h1, h2, _ => by omega
  | n + 1, e, h1, h2, h3 => by
    simp only [fevG]
    by_cases z : e = e0
    · rw [z, if_pos h0]
    · rw [if_neg (h3 e (by omega) (by omega))]
      exact fevG_e h0 n (e + 1) (by omega) (by omega) (fun e1 g1 g2 => h3 e1 (by omega) g2)
theorem bfC_V (hW : WFm w) {c st : Int} (h1 : 0 ≤ c ∧ c ≤ 9999) (hs : 0 ≤ st ∧ st < 10) : (bfC w c).1.2.2.2.1 st.toNat = fev w c st := by
  have q := bfC_O hW h1
  unfold fev
  by_cases hm : stp w c st = -1
  · rw [if_pos (by omega)]
    have e2 := (bfC_U hW.ft h1 hs).2
    rw [← bfC_1] at e2
    refine e2.trans (ffP_no _ _ (Int.le_refl _) (fun i i1 i2 i3 => ?_))
    have i3 := pst_1.1 i3
    have g := stp_le hW h1 hs (B1b q (i + 1) i (by omega) (by omega)) i3
    omega
  · obtain ⟨i, i1, i2, i3, i4, i5⟩ := stp_in hW h1 hs hm
    have s0 := q.s0 (j := i) i1
    by_cases hz : stp w c st ≤ 0
    · rw [if_pos hz, i4]
      have iz : i = 0 := by
        rcases Nat.eq_zero_or_pos i with y0 | y0
        · exact y0
        · have := (q.2.2.1 i y0 i1).1.1
          omega
      rw [iz, q.1.2.2.1]
      exact q.1.2.2.2.2
    · rw [if_neg hz, i4]
      have i0 : 1 ≤ i := by
        rcases Nat.eq_zero_or_pos i with y0 | y0
        · rw [y0, q.1.2.2.1, q.1.2.2.2.1] at i3
          omega
        · exact y0
      obtain ⟨g1, g2, g3⟩ := B2 q (i + 1) i (by omega) i0 i1
      have hr := vdt_r (e := xF (bfC w c).1 (xL (bfC w c).1 i)) hW.ft h1
      refine (fevG_e ⟨g2, ?_⟩ (w 1).toNat 0 g1.1 (by omega) (fun e1 f1 f2 f3 => ?_)).symm
      · have a := stp_le hW hr hs g3 i2
        obtain ⟨k, k1, k2, k3, -, -⟩ := stp_in hW hr hs (by omega)
        have b := B1b (bfC_O hW hr) (k + 1) k (by omega) k1
        rw [← k3] at b
        have d := stp_le hW h1 hs (show Rp w ((stp w (vdt w c (xF (bfC w c).1 (xL (bfC w c).1 i))).2.2 st).toNat + 1) c _ from ⟨_, g1, g2, b⟩) k2
        omega
      · have hr1 := vdt_r (e := e1) hW.ft h1
        obtain ⟨k, k1, k2, k3, -, -⟩ := stp_in hW hr1 hs (by omega)
        have b := B1b (bfC_O hW hr1) (k + 1) k (by omega) k1
        rw [← k3, f3.2] at b
        have be : Rp w ((stp w c st - 1).toNat + 1) c (xL (bfC w (vdt w c e1).2.2).1 k) := ⟨e1, ⟨f1, by omega⟩, f3.1, b⟩
        obtain ⟨y1, y2, y3⟩ := B1a hW h1 q _ _ be
        obtain ⟨j, j1, j2⟩ := q.2.2.2.2.2 _ y1.1 y1.2 y2
        have j3 := B1b q (j + 1) j (by omega) j1
        have j4 := stp_le hW h1 hs j3 (by rw [j2]; exact k2)
        have sj := q.s0 (j := j) j1
        rw [j2] at j4 sj
        have m1 := B2m hW h1 q ⟨f1, by omega⟩ f3.1 _ _ b (by omega)
        have ij : i ≤ j := Classical.byContradiction (fun z => i5 j (by omega) (by rw [j2]; exact k2))
        have o := (q.2.1 i j ij j1).2 (by rw [j2]; omega)
        rw [j2] at o
        omega
end A

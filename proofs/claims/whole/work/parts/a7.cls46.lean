/-! both sides: texts, loading, scripts, output -/
section A
variable {K : List AKd} {h : Nat → Nat → Int} {R : R4} {σ : Sg} {r d : Nat} {w u : Nat → Int} {b c : Nat → Int} {n N M : Int}
theorem Rel.t0 {g : Nat → Nat → Int} (q : Rel r d N h g) : RelT h (g 275) (g 268 13) ∧ RelE h (g 268 14) (g 268 15) ∧ RelO h (g 281) (g 268 30) := q.2.2.2
theorem udI_q {v : Int} (q : Bq b c n) (hn : 0 ≤ n) : Bq (udI b n.toNat v) (udI c n.toNat v) (n + 1) := fun y hy => by
  unfold udI
  by_cases z : y = n.toNat
  · rw [if_pos z, if_pos z]
  · rw [if_neg z, if_neg z]
    exact q y (by omega)
theorem apW_q {x : Int} (q : Bq b c n) (hn : 0 ≤ n) : Bq (apW b n x) (apW c n x) (n + 4) := by
  have z := udI_q (v := x % 256) (udI_q (v := x / 256 % 256) (udI_q (v := x / 65536 % 256) (udI_q (v := x / 16777216 % 256) q hn) (by omega)) (by omega)) (by omega)
  rw [show n + 1 + 1 = n + 2 by omega, show n + 2 + 1 = n + 3 by omega, show n + 3 + 1 = n + 4 by omega] at z
  exact z
theorem apW_0 {x : Int} (q : ∀ y, 0 ≤ b y) : ∀ y, 0 ≤ apW b n x y := fun y => by
  have := q y
  unfold apW udI
  split
  · omega
  · split
    · omega
    · split
      · omega
      · split
        · omega
        · exact this
theorem apI_q {x1 x2 x3 x4 x5 : Int} (q : Bq b c n) (hn : 0 ≤ n) : Bq (apI b n x1 x2 x3 x4 x5) (apI c n x1 x2 x3 x4 x5) (n + 20) := by
  have z := apW_q (x := x5) (apW_q (x := x4) (apW_q (x := x3) (apW_q (x := x2) (apW_q (x := x1) q hn) (by omega)) (by omega)) (by omega)) (by omega)
  rw [show n + 4 + 4 = n + 8 by omega, show n + 8 + 4 = n + 12 by omega, show n + 12 + 4 = n + 16 by omega, show n + 16 + 4 = n + 20 by omega] at z
  exact z
theorem Rel.app {g g1 h1 : Nat → Nat → Int} {x1 x2 x3 x4 x5 : Int} (q : Rel r d N h g) (hn : g 268 13 + 20 ≤ 700) (p : Txc h (apI (h 3) (g 268 13) x1 x2 x3 x4 x5) (g 268 13 + 20) h1) (s : Tx (hput g 268 6 0) (apI (g 275) (g 268 13) x1 x2 x3 x4 x5) (g 268 13 + 20) g1) : Rel r d N h1 g1 := by
  have qt := q
  obtain ⟨⟨t1, t2, t3, t4⟩, ⟨e1, e2⟩, f1, f2, f3⟩ := q.t0
  obtain ⟨⟨p1, p2⟩, p3⟩ := p
  obtain ⟨⟨s1, s2⟩, s3⟩ := s
  have s4 : ∀ x y, x ≠ 275 → ¬ (x = 268 ∧ (y = 13 ∨ y = 6)) → g1 x y = g x y := fun x y y1 y2 => (s3 x y y1 (by omega)).trans (if_neg (by omega))
  refine qt.txt (fun x y y1 y2 y3 y4 => p3 x y y3 (by omega)) (p3 _ _ (by decide) (by decide)) (fun x y z => s4 x y (by omega) (by omega)) ⟨p2.trans s2.symm, by rw [s2]; omega, fun y hy => ?_, fun y => ?_⟩ ⟨(p3 _ _ (by decide) (by decide)).trans (e1.trans (s4 _ _ (by decide) (by decide)).symm), (p3 _ _ (by decide) (by decide)).trans (e2.trans (s4 _ _ (by decide) (by decide)).symm)⟩ ⟨(p3 _ _ (by decide) (by decide)).trans (f1.trans (s4 _ _ (by decide) (by decide)).symm), by rw [s4 268 30 (by decide) (by decide)]; exact f2, fun y hy => ?_⟩
  · rw [s2] at hy
    rw [p1, s1]
    exact apI_q t3 t2.1 y hy
  · rw [p1]
    exact apW_0 (apW_0 (apW_0 (apW_0 (apW_0 t4)))) y
  · rw [s4 268 30 (by decide) (by decide)] at hy
    rw [p3 155 y (by decide) (by omega), s4 281 y (by decide) (by omega)]
    exact f3 y hy
theorem Rel.trunc {g : Nat → Nat → Int} {x : Int} (q : Rel r d N h g) (hx : 0 ≤ x ∧ x ≤ g 268 13) : Rel r d N (hput h 2 1 x) (hput (hput g 268 6 0) 268 13 x) := by
  have qt := q
  obtain ⟨⟨t1, t2, t3, t4⟩, ⟨e1, e2⟩, f1, f2, f3⟩ := q.t0
  have s4 : ∀ a y, ¬ (a = 268 ∧ (y = 13 ∨ y = 6)) → hput (hput g 268 6 0) 268 13 x a y = g a y := fun a y y2 => (if_neg (by omega)).trans (if_neg (by omega))
  refine qt.txt (fun a y y1 y2 y3 y4 => hput_k y2) (hput_k (by decide)) (fun a y z => s4 a y (by omega)) ⟨hput_s.trans hput_s.symm, by rw [hput_s]; omega, fun y hy => ?_, fun y => by rw [hput_k (by decide)]; exact t4 y⟩ ⟨(hput_k (by decide)).trans (e1.trans (s4 _ _ (by decide)).symm), (hput_k (by decide)).trans (e2.trans (s4 _ _ (by decide)).symm)⟩ ⟨(hput_k (by decide)).trans (f1.trans (s4 _ _ (by decide)).symm), by rw [s4 268 30 (by decide)]; exact f2, fun y hy => ?_⟩
  · rw [hput_s] at hy
    rw [hput_k (by decide), s4 275 y (by omega)]
    exact t3 y (by omega)
  · rw [s4 268 30 (by decide)] at hy
    rw [hput_k (by decide), s4 281 y (by omega)]
    exact f3 y hy
theorem vaO_n (hN : ∀ i, 0 ≤ i → i < w 2 → 0 ≤ w (483 + 7 * i).toNat ∧ w (483 + 7 * i).toNat ≤ 6) : ∀ (m : Nat) (k : Int) (T : OT), 0 ≤ k → k + m = w 2 → 0 ≤ T.2 → 0 ≤ (vaO w m k T).2 ∧ (vaO w m k T).2 ≤ T.2 + 9 * m
  | 0, k, T, h0, h1, h2 => ⟨h2, by show T.2 ≤ T.2 + 9 * ((0 : Nat) : Int); omega⟩
  | m + 1, k, T, h0, h1, h2 => by
    have g := nmW_n (T := wrO T 32) (hN k h0 (by omega))
    have g1 : (wrO T 32).2 = T.2 + 1 := rfl
    have z := vaO_n hN m (k + 1) (wrO (wrO (nmW w (483 + 7 * k) (wrO T 32)) 61) (48 + w (6 + k).toNat)) (by omega) (by omega) (by show 0 ≤ (nmW w (483 + 7 * k) (wrO T 32)).2 + 1 + 1; omega)
    have e : (wrO (wrO (nmW w (483 + 7 * k) (wrO T 32)) 61) (48 + w (6 + k).toNat)).2 = (nmW w (483 + 7 * k) (wrO T 32)).2 + 1 + 1 := rfl
    rw [e] at z
    show 0 ≤ (vaO w m (k + 1) (wrO (wrO (nmW w (483 + 7 * k) (wrO T 32)) 61) (48 + w (6 + k).toNat))).2 ∧ (vaO w m (k + 1) (wrO (wrO (nmW w (483 + 7 * k) (wrO T 32)) 61) (48 + w (6 + k).toNat))).2 ≤ _
    omega
theorem outW_n (hW : WFm w) (h5 : 0 ≤ w 5 ∧ w 5 < w 0) : 0 ≤ (outW w).2 ∧ (outW w).2 ≤ 40 := by
  have v2 := hW.1.2.2.1
  have g := nmW_n (T := (fun _ => 0, 0)) (hW.2.2.1.1 (w 5) h5.1 h5.2)
  have e : ((fun _ => 0, 0) : OT).2 = 0 := rfl
  have z := vaO_n hW.2.2.1.2.2 (w 2).toNat 0 (nmW w (357 + 7 * w 5) (fun _ => 0, 0)) (by omega) (by omega) (by omega)
  unfold outW
  omega
theorem Rel.out {g g1 h1 : Nat → Nat → Int} (q : Rel r d N h g) (p : OCc h (outW (g 269)) h1) (s : OC (hput g 268 6 0) (outW (g 269)) g1) : Rel r d N h1 g1 := by
  have qt := q
  have hn := outW_n q.1.2.1.1.1 ⟨q.1.2.1.1.2.1.1.1, by have := q.1.2.1.1.2.2.2.2.1; have := q.1.2.2.1; omega⟩
  obtain ⟨⟨t1, t2, t3, t4⟩, ⟨e1, e2⟩, f1, f2, f3⟩ := q.t0
  obtain ⟨p1, p2, p3⟩ := p
  obtain ⟨s1, s2, s3⟩ := s
  have s4 : ∀ x y, x ≠ 281 → ¬ (x = 268 ∧ (y = 30 ∨ y = 6)) → g1 x y = g x y := fun x y y1 y2 => (s3 x y y1 (by omega)).trans (if_neg (by omega))
  refine qt.txt (fun x y y1 y2 y3 y4 => p3 x y y4 (by omega)) (p3 _ _ (by decide) (by decide)) (fun x y z => s4 x y (by omega) (by omega)) ⟨(p3 _ _ (by decide) (by decide)).trans (t1.trans (s4 _ _ (by decide) (by decide)).symm), by rw [s4 268 13 (by decide) (by decide)]; exact t2, fun y hy => ?_, fun y => by rw [p3 3 y (by decide) (by omega)]; exact t4 y⟩ ⟨(p3 _ _ (by decide) (by decide)).trans (e1.trans (s4 _ _ (by decide) (by decide)).symm), (p3 _ _ (by decide) (by decide)).trans (e2.trans (s4 _ _ (by decide) (by decide)).symm)⟩ ⟨p1.trans s1.symm, by rw [s1]; exact hn, fun y hy => ?_⟩
  · rw [s4 268 13 (by decide) (by decide)] at hy
    rw [p3 3 y (by decide) (by omega), s4 275 y (by decide) (by omega)]
    exact t3 y hy
  · rw [s1] at hy
    exact (p2 y hy).trans (s2 y hy).symm
/-- the text was read; nothing else has happened -/
theorem Rel.rd {g g1 h1 : Nat → Nat → Int} (q : Rel r d N h g) (e : ∀ x y, x ≠ 2 → (x < 4 ∨ 7 < x) → ¬ (x = 1 ∧ 11 ≤ y ∧ y ≤ 12) → (x < d ∨ d + 56 ≤ x ∨ x = d + 40) → h1 x y = h x y) (e11 : h1 1 11 = g1 268 14) (e12 : h1 1 12 = g1 268 15) (e21 : h1 2 1 = 0) (g13 : g1 268 13 = 0) (ga : ∀ y, y < 504 → g1 269 y = g 269 y) (ge : ∀ x y, x = 271 ∨ x = 272 ∨ x = 281 ∨ (x = 268 ∧ (y = 4 ∨ y = 5 ∨ y = 30)) → g1 x y = g x y) : Rel r d N h1 g1 := by
  have r0 := q.1.rd
  obtain ⟨q1, q2, q3, ⟨t1, t2, t3, t4⟩, -, f1, f2, f3⟩ := q
  have d0 := q1.1.1
  have q1' := q1.a5 ga
  have q2' := q2.a5 ga
  have q3' := q3.a5 ga
  unfold Rel
  rw [show g1 272 = g 272 from funext fun y => ge _ _ (by omega), show g1 271 = g 271 from funext fun y => ge _ _ (by omega), ge 268 4 (by omega), ge 268 5 (by omega), ge 268 30 (by omega)]
  obtain ⟨⟨hr, h40⟩, m2, m3, m4, m5, m6⟩ := q1'
  obtain ⟨a1, a2, a3, a4⟩ := q2'
  have e341 : h1 34 1 = h 34 1 := e _ _ (by decide) (by decide) (by decide) (by omega)
  refine ⟨⟨⟨hr, (e _ _ (by omega) (by omega) (by omega) (by omega)).trans h40⟩, m2, m3, m4.fr m2.1.1.1 (fun x y z1 z2 => e x y (by omega) (by omega) (by omega) (by omega)), m5.fr (fun x y z1 z2 => e x y (by omega) (by omega) (by omega) (by omega)), fun z => (m6 (by rw [← e 143 0 (by decide) (by decide) (by decide) (by omega)]; exact z)).fr (fun x y z => e x y (by omega) (by omega) (by omega) (by omega))⟩, ⟨by rw [e341]; exact a1, (e _ _ (by decide) (by decide) (by decide) (by omega)).trans a2, a3, fun i hi => ?_⟩, ⟨by rw [e 1 13 (by decide) (by decide) (by decide) (by omega)]; exact q3'.1, fun z => ⟨(q3'.2 z).1.fr (fun x y z1 z2 => e x y (by omega) (by omega) (by omega) (by omega)), (q3'.2 z).2⟩⟩, ⟨by rw [e21, g13], by rw [g13]; decide, fun y hy => absurd hy (by rw [g13]; omega), fun y => by rw [e 3 y (by decide) (by decide) (by omega) (by omega)]; exact t4 y⟩, ⟨e11, e12⟩, (e _ _ (by decide) (by decide) (by decide) (by omega)).trans f1, f2, fun y hy => ?_⟩
  · rw [e341]
    exact ⟨(a4 i hi).1.fr (fun x y z1 z2 => e x y (by omega) (by omega) (by omega) (by omega)), (a4 i hi).2⟩
  · rw [e 155 y (by decide) (by decide) (by omega) (by omega), ge 281 y (by omega)]
    exact f3 y hy
/-- a machine was loaded -/
theorem Rel.load {g g1 h1 : Nat → Nat → Int} {s : PS} {nn : Nat → Int} (q : Rel r d N h g) (hN : 1 ≤ N) (h7 : n ≤ 700) (hm : mTxt b n w nn = .inr s) (e : ∀ x y, x ≠ 2 → ¬ (x = 1 ∧ 11 ≤ y ∧ y ≤ 13) → (x < 8 ∨ 21 ≤ x) → ¬ (x = 34 ∧ y = 2) → ¬ (x = 143 ∧ y = 0) → (x < d ∨ d + 56 ≤ x ∨ x = d + 40) → h1 x y = h x y) (e1 : h1 1 11 = 0 ∧ h1 1 12 = -1) (e21 : h1 2 1 = 0) (eR : RRl h1 d s.1) (eS : RSt h1 8 (ldM s.1)) (e2 : h1 34 2 = 0) (e13 : h1 1 13 = 0) (e0 : h1 143 0 = 0) (g13 : g1 268 13 = 0) (g14 : g1 268 14 = 0) (g15 : g1 268 15 = -1) (g4 : g1 268 4 = 0) (g5 : g1 268 5 = 0) (g9 : g1 269 = ldM s.1) (ge : ∀ x y, x = 281 ∨ (x = 268 ∧ y = 30) → g1 x y = g x y) : Rel d r N h1 g1 := by
  have r0 := q.1.rd
  obtain ⟨q1, q2, q3, ⟨t1, t2, t3, t4⟩, -, f1, f2, f3⟩ := q
  obtain ⟨⟨hr, h40⟩, m2, m3, m4, m5, m6⟩ := q1
  obtain ⟨o1, o2, -⟩ := mTxt_ok h7 hm
  obtain ⟨z1, z2⟩ := mTxt_z h7 hm
  have eo : ∀ y : Nat, ¬ (5 ≤ y ∧ y ≤ 8) → y ≠ 18 → y ≠ 59 → ldM s.1 y = s.1 y := fun y y1 y2 y3 => (if_neg y3).trans (g2sW_o ⟨y1, y2⟩)
  have hs : SameR s.1 (ldM s.1) := fun y hy => eo y (by omega) (by omega) (by omega)
  have ex : EX (ldM s.1) := by
    refine ⟨fun k hk => absurd (show (k : Int) < 0 from hk) (by omega), fun t t1 t2 => ?_, fun t t1 t2 => ?_⟩
    · exact (eo _ (by omega) (by omega) (by omega)).trans (z2 _ (by omega) (by omega))
    · rw [hs 0 (by omega)] at t1
      have := o2.1
      exact (eo _ (by omega) (by omega) (by omega)).trans (z2 _ (by omega) (by omega))
  have r40 : h1 (r + 40) 0 = 0 := by
    rw [e _ _ (by omega) (by omega) (by omega) (by omega) (by omega) (by omega), m4.2.1.1]
    have wi := m2.1.1.2.1
    exact (stW_v (wi 0 (by decide) (by decide)) (wi 1 (by decide) (by decide)) (wi 2 (by decide) (by decide))).1
  have e341 : h1 34 1 = h 34 1 := e _ _ (by decide) (by decide) (by decide) (by decide) (by decide) (by omega)
  have hc : CRl h1 d (ldM s.1) := CRl.ag ⟨eR.1.1, eR.1.2.1, eR.2⟩ z1 hs
  unfold Rel
  rw [g9, g4, g5, g13, g14, g15, ge 268 30 (by omega)]
  refine ⟨⟨⟨by omega, r40⟩, ⟨o1.up hN, ex, trivial⟩, by rw [hs 0 (by omega), hs 1 (by omega), hs 2 (by omega)]; exact o2, hc, eS, fun z => absurd e0 z⟩, ⟨by rw [e341]; exact q2.1, e2, by decide, fun i hi => by omega⟩, ⟨by rw [e13], fun z => absurd rfl z⟩, ⟨e21, by decide, fun y hy => by omega, fun y => by rw [e 3 y (by decide) (by omega) (by omega) (by omega) (by omega) (by omega)]; exact t4 y⟩, e1, (e _ _ (by decide) (by decide) (by decide) (by decide) (by decide) (by omega)).trans f1, f2, fun y hy => ?_⟩
  rw [e 155 y (by decide) (by omega) (by omega) (by omega) (by omega) (by omega), ge 281 y (by omega)]
  exact f3 y hy
theorem Rel.bq {g : Nat → Nat → Int} (q : Rel r d N h g) : Bq (h 3) (g 275) (g 268 13) := q.t0.1.2.2.1
end A

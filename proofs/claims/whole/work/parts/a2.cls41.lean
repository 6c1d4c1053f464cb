/-! a change on both sides -/
section A
variable {K : List AKd} {h : Nat → Nat → Int} {R : R4} {σ : Sg} {r d : Nat} {w u : Nat → Int} {b : Nat → Int} {n N M : Int}
theorem WFm.a5 (hW : WFm w) (g : ∀ y : Nat, y < 504 → u y = w y) : WFm u := by
  obtain ⟨v, wi, wn, wt, wv⟩ := hW
  have e0 := g 0 (by omega)
  have e1 := g 1 (by omega)
  have e2 := g 2 (by omega)
  have e3 := g 3 (by omega)
  have e4 := g 4 (by omega)
  obtain ⟨v0, v1, v2, v3, v4⟩ := id v
  refine ⟨?_, ?_, ?_, ?_, ?_⟩
  · unfold WFb
    rw [e0, e1, e2, e3, e4]
    exact v
  · intro i h1 h2
    rw [g _ (by omega)]
    exact wi i h1 h2
  · unfold WFn
    rw [e0, e1, e2]
    exact ⟨fun i h1 h2 => by rw [g _ (by omega)]; exact wn.1 i h1 h2, fun i h1 h2 => by rw [g _ (by omega)]; exact wn.2.1 i h1 h2, fun i h1 h2 => by rw [g _ (by omega)]; exact wn.2.2 i h1 h2⟩
  · intro t h1 h2
    rw [e3] at h2
    exact (wt t h1 h2).ex (by omega) (by omega) (by omega) (fun j hj hj2 => g _ (by omega))
  · intro i h1 h2
    rw [e4] at h2
    exact (wv i h1 h2).ex (by omega) (by omega) (fun j hj hj2 => g _ (by omega))
theorem WFd.a5 (q : WFd w N) (g : ∀ y : Nat, y < 504 → u y = w y) : WFd u N := by
  obtain ⟨hW, hc, d1, d2, d3, d4⟩ := q
  refine ⟨hW.a5 g, ?_, by rw [g 18 (by omega)]; exact d1, fun y hy => by rw [g y (by omega)]; exact d2 y hy, by rw [g 5 (by omega), g 0 (by omega)]; exact d3, fun k hk => ?_⟩
  · unfold WFc
    rw [g 5 (by omega), g 6 (by omega), g 7 (by omega), g 8 (by omega)]
    exact hc
  · rw [g 18 (by omega)] at hk
    rw [g 1 (by omega), g 3 (by omega), g (19 + 2 * k) (by omega), g (20 + 2 * k) (by omega)]
    exact d4 k hk
theorem EX.a5 (hd : WFd w N) (q : EX w) (g : ∀ y : Nat, y < 504 → u y = w y) : EX u := by
  obtain ⟨hW, hc, d1, d2, d3, d4⟩ := hd
  have v3 := hW.1.2.2.2.1
  refine ⟨fun k hk => ?_, fun t t1 t2 => ?_, fun s s1 s2 => ?_⟩
  · rw [g 18 (by omega)] at hk
    have t0 := (d4 k hk).2
    rw [g (19 + 2 * k) (by omega), g (20 + 2 * k) (by omega), q.1 k hk]
    unfold tr
    rw [g _ (by omega)]
  · rw [g 3 (by omega)] at t1
    rw [g _ (by omega)]
    exact q.2.1 t t1 t2
  · rw [g 0 (by omega)] at s1
    rw [g _ (by omega)]
    exact q.2.2 s s1 s2
theorem RSt.a5 {k : Nat} (hd : WFd w N) (q : RSt h k w) (g : ∀ y : Nat, y < 504 → u y = w y) : RSt h k u := by
  refine ⟨?_, q.2.1.ag hd.1.1.2.2.2.2 (g 4 (by omega)) (fun y y1 y2 => g y (by omega)), q.2.2.ag hd.2.2.1.2 (fun y y1 => g y (by omega))⟩
  rw [hW_ag (g 5 (by omega)) (g 6 (by omega)) (g 7 (by omega)) (g 8 (by omega))]
  exact q.1
theorem SameR.a5 {v : Nat → Int} (q : SameR w v) (g : ∀ y : Nat, y < 504 → u y = v y) : SameR w u := fun y hy => (g y (by omega)).trans (q y hy)
theorem SameR.tr {v : Nat → Int} (p : SameR w u) (q : SameR u v) : SameR w v := fun y hy => (q y hy).trans (p y hy)
theorem SameR.sy (p : SameR w u) : SameR u w := fun y hy => (p y hy).symm
theorem HOK.a5 {v : Nat → Int} (q : HOK w N v) (g : ∀ y : Nat, y < 504 → u y = v y) : HOK w N u := ⟨q.1.a5 g, EX.a5 q.1 q.2.1 g, q.2.2.a5 g⟩
theorem HOK.to {f v : Nat → Int} (q : HOK w N v) (hs : SameR w f) (hN : N ≤ M) : HOK f M v := ⟨q.1.up hN, q.2.1, hs.sy.tr q.2.2⟩
theorem cut_a {f : Nat → Int} {a : Nat} : ∀ y : Nat, y < 504 → cutW f a y = f (a + y) := fun y hy => if_pos hy
/-- the machine now is f on both sides, the rules are the same -/
theorem RelM.to {f : Nat → Int} {h1 : Nat → Nat → Int} (q : RelM r d N h w) (hf : WFd f M) (hx : EX f) (hs : SameR w f) (e : ∀ x y, 156 ≤ x → h1 x y = h x y) (qs : RSt h1 8 f) (hS : h1 143 0 = 0) : RelM r d M h1 f := by
  have r0 := q.rd
  obtain ⟨⟨hr, h40⟩, ⟨hd, -, -⟩, hn, qr, -, -⟩ := q
  refine ⟨⟨hr, (e _ _ (by omega)).trans h40⟩, ⟨hf, hx, trivial⟩, ?_, (qr.ag hd.1 hs).fr hf.1.1 (fun x y z1 z2 => e x y (by omega)), qs, fun z => absurd hS z⟩
  rw [hs 0 (by omega), hs 1 (by omega), hs 2 (by omega)]
  exact hn
/-- a row more in both histories -/
theorem RelH.push {g g1 f : Nat → Int} {h1 : Nat → Nat → Int} {c c1 : Int} (q : RelH N h w g c) (hd : WFd w N) (hx : EX w) (hs : SameR w f) (hN : N ≤ M) (k1 : h1 34 1 = (h 34 1 + 1) % 8) (k2 : h1 34 2 = (if h 34 2 < 8 then h 34 2 + 1 else h 34 2)) (kf : ∀ x y, 36 ≤ x → x < 140 → (x < 36 + 13 * ((h 34 1 + 1) % 8).toNat ∨ 49 + 13 * ((h 34 1 + 1) % 8).toNat ≤ x) → h1 x y = h x y) (kr : RSt h1 (36 + 13 * ((h 34 1 + 1) % 8).toNat) w)
    (r1 : c1 = if c = 8 then 8 else c + 1) (r2 : ∀ i j : Nat, (i : Int) + 1 < c1 → j < 504 → g1 (504 * i + j) = g (504 * (if c = 8 then i + 1 else i) + j)) (r3 : ∀ i j : Nat, (i : Int) + 1 = c1 → j < 504 → g1 (504 * i + j) = w j) : RelH M h1 f g1 c1 := by
  obtain ⟨p0, p1, p2, p3⟩ := q
  rw [p1] at k2
  have c8 : c1 = if c < 8 then c + 1 else c := by rw [r1]; split <;> split <;> omega
  refine ⟨by rw [k1]; omega, k2.trans c8.symm, by rw [c8]; split <;> omega, fun i hi => ?_⟩
  rw [k1]
  by_cases z : (i : Int) + 1 = c1
  · have e : ((h 34 1 + 1) % 8 + 9 + i - c1) % 8 = (h 34 1 + 1) % 8 := by omega
    rw [e]
    have a : ∀ y : Nat, y < 504 → cutW g1 (504 * i) y = w y := fun y hy => (cut_a y hy).trans (r3 i y z hy)
    exact ⟨kr.a5 hd a, HOK.a5 ⟨hd.up hN, hx, hs.sy⟩ a⟩
  · have hi1 : (i : Int) + 1 < c1 := by omega
    obtain ⟨i1, hi2⟩ : ∃ i1 : Nat, i1 = if c = 8 then i + 1 else i := ⟨_, rfl⟩
    have hi3 : (i1 : Int) = if c = 8 then (i : Int) + 1 else i := by rw [hi2]; split <;> omega
    have hi4 : (i1 : Int) < c := by rw [hi3]; rw [c8] at hi1; split <;> split at hi1 <;> omega
    have e : ((h 34 1 + 1) % 8 + 9 + i - c1) % 8 = (h 34 1 + 9 + i1 - c) % 8 := by
      rw [c8, hi3]
      split <;> split <;> omega
    have ne : ((h 34 1 + 9 + i1 - c) % 8).toNat ≠ ((h 34 1 + 1) % 8).toNat := by
      have : ¬ (i1 : Int) - c = -8 := by
        rw [hi3]
        split <;> omega
      omega
    obtain ⟨a1, a2⟩ := p3 i1 hi4
    rw [e]
    have a : ∀ y : Nat, y < 504 → cutW g1 (504 * i) y = cutW g (504 * i1) y := fun y hy => by
      rw [cut_a y hy, cut_a y hy, r2 i y hi1 hy, ← hi2]
    exact ⟨(a1.fr (fun x y x1 x2 => kf x y (by omega) (by omega) (by omega))).a5 a2.1 a, (a2.to hs hN).a5 a⟩
theorem RelS.to {g g1 f : Nat → Int} {h1 : Nat → Nat → Int} {x x1 : Int} (q : RelS N h w g x) (hs : SameR w f) (hN : N ≤ M) (e13 : h1 1 13 = h 1 13) (e : ∀ x y, 21 ≤ x → x < 34 → h1 x y = h x y) (eg : ∀ y : Nat, y < 504 → g1 y = g y) (ex : x1 = x) : RelS M h1 f g1 x1 := by
  rw [ex]
  refine ⟨by rw [e13]; exact q.1, fun z => ?_⟩
  obtain ⟨a1, a2⟩ := q.2 z
  have a : ∀ y : Nat, y < 504 → cutW g1 0 y = cutW g 0 y := fun y hy => by rw [cut_a y hy, cut_a y hy, eg _ (by omega)]
  exact ⟨(a1.fr (fun x y z1 z2 => e x y (by omega) (by omega))).a5 a2.1 a, (a2.to hs hN).a5 a⟩
theorem RelT.to {g g1 : Nat → Int} {h1 : Nat → Nat → Int} {n1 : Int} (q : RelT h g n) (e21 : h1 2 1 = h 2 1) (e3 : ∀ y, h1 3 y = h 3 y) (eg : ∀ y, g1 y = g y) (en : n1 = n) : RelT h1 g1 n1 := by
  rw [en]
  exact ⟨e21.trans q.1, q.2.1, fun y hy => by rw [e3, eg]; exact q.2.2.1 y hy, fun y => by rw [e3]; exact q.2.2.2 y⟩
theorem RelO.to {g g1 : Nat → Int} {h1 : Nat → Nat → Int} {n1 : Int} (q : RelO h g n) (e1 : h1 1 10 = h 1 10) (e3 : ∀ y, h1 155 y = h 155 y) (eg : ∀ y, g1 y = g y) (en : n1 = n) : RelO h1 g1 n1 := by
  rw [en]
  exact ⟨e1.trans q.1, q.2.1, fun y hy => by rw [e3, eg]; exact q.2.2 y hy⟩
/-- what the class leaves of a change that is remembered: f now -/
def ClQ (h : Nat → Nat → Int) (w f : Nat → Int) (h1 : Nat → Nat → Int) : Prop := (∀ x y, (x < 8 ∨ 21 ≤ x) → (x < 34 ∨ 143 ≤ x) → ¬ (x = 143 ∧ y = 0) → h1 x y = h x y) ∧ (h1 34 1 = (h 34 1 + 1) % 8 ∧ h1 34 2 = (if h 34 2 < 8 then h 34 2 + 1 else h 34 2)) ∧ (∀ x y, 36 ≤ x → x < 140 → (x < 36 + 13 * ((h 34 1 + 1) % 8).toNat ∨ 49 + 13 * ((h 34 1 + 1) % 8).toNat ≤ x) → h1 x y = h x y) ∧ RSt h1 (36 + 13 * ((h 34 1 + 1) % 8).toNat) w ∧ RSt h1 8 f ∧ h1 143 0 = 0
/-- what the reference leaves of it -/
def RfC (g : Nat → Nat → Int) (w f : Nat → Int) (g1 : Nat → Nat → Int) : Prop := g1 269 = f ∧ (g1 268 4 = if g 268 4 = 8 then 8 else g 268 4 + 1) ∧ (∀ i j : Nat, (i : Int) + 1 < g1 268 4 → j < 504 → g1 272 (504 * i + j) = g 272 (504 * (if g 268 4 = 8 then i + 1 else i) + j)) ∧ (∀ i j : Nat, (i : Int) + 1 = g1 268 4 → j < 504 → g1 272 (504 * i + j) = w j) ∧ ∀ x y, (x = 271 ∨ x = 275 ∨ x = 281 ∨ (x = 268 ∧ (y = 5 ∨ (13 ≤ y ∧ y ≤ 15) ∨ y = 30))) → g1 x y = g x y
theorem Rel.ch {g g1 h1 : Nat → Nat → Int} {f : Nat → Int} (q : Rel r d N h g) (p : ClQ h (g 269) f h1) (s : RfC g (g 269) f g1) (hf : WFd f M) (hx : EX f) (hs : SameR (g 269) f) (hN : N ≤ M) : Rel r d M h1 g1 := by
  obtain ⟨q1, q2, q3, q4, q5, q6⟩ := q
  obtain ⟨p1, ⟨p2, p3⟩, p4, p5, p6, p7⟩ := p
  obtain ⟨s1, s2, s3, s4, s5⟩ := s
  unfold Rel
  rw [s1]
  exact ⟨q1.to hf hx hs (fun x y z => p1 x y (by omega) (by omega) (by omega)) p6 p7, q2.push q1.2.1.1 q1.2.1.2.1 hs hN p2 p3 p4 p5 s2 s3 s4, q3.to hs hN (p1 _ _ (by omega) (by omega) (by omega)) (fun x y z1 z2 => p1 x y (by omega) (by omega) (by omega)) (fun y _ => s5 _ _ (by omega)) (s5 _ _ (by omega)), q4.to (p1 _ _ (by omega) (by omega) (by omega)) (fun y => p1 _ _ (by omega) (by omega) (by omega)) (fun y => s5 _ _ (by omega)) (s5 _ _ (by omega)), ⟨(p1 _ _ (by omega) (by omega) (by omega)).trans (q5.1.trans (s5 _ _ (by omega)).symm), (p1 _ _ (by omega) (by omega) (by omega)).trans (q5.2.trans (s5 _ _ (by omega)).symm)⟩, q6.to (p1 _ _ (by omega) (by omega) (by omega)) (fun y => p1 _ _ (by omega) (by omega) (by omega)) (fun y => s5 _ _ (by omega)) (s5 _ _ (by omega))⟩
/-- remembering, then a change of the machine now -/
theorem KpQ.cl {h1 h2 : Nat → Nat → Int} {f : Nat → Int} (hp : 0 ≤ h 34 1 ∧ h 34 1 < 8) (p : KpQ h w h1) (q : NwO h1 h2) (s : RSt h2 8 f) : ClQ h w f h2 := by
  obtain ⟨p1, p2, p3, p4⟩ := p
  have p9 : ((h 34 1 + 1) % 8).toNat ≤ 7 := by omega
  refine ⟨fun x y x1 x2 x3 => (q x y x1 (by omega)).trans ((p1 x y (by omega) (by omega)).trans (if_neg x3)), ⟨(q _ _ (by omega) (by omega)).trans p2, (q _ _ (by omega) (by omega)).trans p3⟩, fun x y x1 x2 x3 => (q x y (by omega) (by omega)).trans ((p1 x y (by omega) x3).trans (if_neg (by omega))), p4.fr (fun x y x1 x2 => q x y (by omega) (by omega)), s, (q _ _ (by omega) (by omega)).trans ((p1 _ _ (by omega) (by omega)).trans hput_s)⟩
theorem KpQ.now {h1 : Nat → Nat → Int} (hp : 0 ≤ h 34 1 ∧ h 34 1 < 8) (p : KpQ h w h1) : ∀ x y, (x < 34 ∨ 140 ≤ x) → x ≠ 143 → h1 x y = h x y := fun x y x1 x2 => by
  have p9 : ((h 34 1 + 1) % 8).toNat ≤ 7 := by omega
  exact (p.1 x y (by omega) (by omega)).trans (if_neg (by omega))
end A

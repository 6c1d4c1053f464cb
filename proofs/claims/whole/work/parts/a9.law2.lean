/-! the law: one call on both sides -/
section A
variable {K : List AKd} {h : Nat → Nat → Int} {R R1 : R4} {σ : Sg} {r d : Nat} {w u : Nat → Int} {n N M v : Int} {t : Option Out}
def RbOK (R R1 : R4) : Prop := R1 = R ∨ R1 = (R.1 + 1, R.2.1 + 6, R.2.2)
/-- the class has been asked: nothing that counts has changed -/
def CqP (r d : Nat) (N : Int) (h h1 : Nat → Nat → Int) : Prop := Rel r d N h1 h ∧ ∀ x y, 268 ≤ x → h1 x y = h x y
/-- the reference has been asked -/
def Qx (h h1 : Nat → Nat → Int) : Prop := ∀ x y, ¬ scr x y → ¬ (x = 268 ∧ y = 6) → h1 x y = h x y
theorem cE {av : AV} (q : Rel r d N h h) (e : t = some (.inl av, (KS r d, h, R))) : Rn t (fun o => ∃ h1, CqP r d N h h1 ∧ o = (.inl av, (KS r d, h1, R))) := Rn.to e ⟨h, ⟨q, fun _ _ _ => rfl⟩, rfl⟩
theorem cF {E : Nat} (q : Rel r d N h h) (e : t = some (.inr E, bump (KS r d, h, R))) : Rn t (fun o => ∃ h1, CqP r d N h h1 ∧ o = (.inr E, bump (KS r d, h1, R))) := Rn.to e ⟨h, ⟨q, fun _ _ _ => rfl⟩, rfl⟩
theorem cS {av : AV} (q : Rel r d N h h) (e : Rn t (StQ r d R h av)) : Rn t (fun o => ∃ h1, CqP r d N h h1 ∧ o = (.inl av, (KS r d, h1, R))) := e.mono (fun o ⟨h1, a, b⟩ => ⟨h1, ⟨q.st a, fun x y z => a x y (by omega)⟩, b⟩)
theorem cSe {av : AV} (q : Rel r d N h h) (e : Rn t (SeQ r d R h (h 269) av)) : Rn t (fun o => ∃ h1, CqP r d N h h1 ∧ o = (.inl av, (KS r d, h1, R))) := e.mono (fun o ⟨h1, ⟨a, b, c⟩, e⟩ => ⟨h1, ⟨q.se a b, fun x y z => a x y (by omega)⟩, e⟩)
theorem rE {av : AV} {tc : Int} (e : t = some (.inl av, (KS r d, hput h 268 6 tc, R))) : Rn t (fun o => ∃ h1, (Qx h h1 ∧ h1 268 6 = tc) ∧ o = (.inl av, (KS r d, h1, R))) := Rn.to e ⟨_, ⟨fun x y _ z => if_neg z, hput_s⟩, rfl⟩
theorem rQ {av : AV} {tc : Int} (e : Rn t (QR r d R h tc av)) : Rn t (fun o => ∃ h1, (Qx h h1 ∧ h1 268 6 = tc) ∧ o = (.inl av, (KS r d, h1, R))) := e.mono (fun o ⟨h1, a, b⟩ => ⟨h1, ⟨fun x y y1 y2 => (a x y y1).trans (if_neg y2), (a 268 6 (by unfold scr; omega)).trans hput_s⟩, b⟩)
theorem Qx.rel {h1 h2 h3 : Nat → Nat → Int} (q : CqP r d N h h1) (e : ∀ x y, x ≠ 282 → h2 x y = h1 x y) (p : Qx h2 h3) : Rel r d N h3 h3 := by
  obtain ⟨q1, q2⟩ := q
  have z := q1.qr (g1 := h3) (fun x y y1 => (p x y (by unfold scr; omega) (by omega)).trans ((e x y (by omega)).trans (q2 x y (by omega))))
  exact z.both (fun x y y1 => (p x y (by unfold scr; omega) (by omega)).trans (e x y (by omega))) (fun _ _ _ => rfl)
theorem RelM.up (q : RelM r d N h w) (hN : N ≤ M) : RelM r d M h w := ⟨q.1, ⟨q.2.1.1.up hN, q.2.1.2⟩, q.2.2⟩
theorem Rel.up {g : Nat → Nat → Int} (q : Rel r d N h g) (hN : N ≤ M) : Rel r d M h g := by
  obtain ⟨q1, ⟨a1, a2, a3, a4⟩, ⟨c1, c2⟩, q4⟩ := q
  exact ⟨q1.up hN, ⟨a1, a2, a3, fun i hi => ⟨(a4 i hi).1, (a4 i hi).2.to (fun _ _ => rfl) hN⟩⟩, ⟨c1, fun z => ⟨(c2 z).1, (c2 z).2.to (fun _ _ => rfl) hN⟩⟩, q4⟩
/-- a call on both sides through a catch -/
def OpB (r d : Nat) (N : Int) (R : R4) (t : Option Out) (u : (Nat → Nat → Int) → R4 → Option Out) (B : Int → Prop) : Prop := Rn t (fun o => ∃ x h1 R1, o = (.inl (AI x), (KS r d, h1, R1)) ∧ RbOK R R1 ∧ Rn (u h1 R1) (fun o2 => ∃ y h2, o2 = (.inl (AI y), (KS r d, h2, R1)) ∧ h2 268 6 = x ∧ (x = 0 → h2 282 0 = y ∧ B y) ∧ Rel r d (N + 31) h2 h2))
def AInt : AV → Prop := fun av => ∃ v, av = AI v
def AFlt : AV → Prop := fun av => ∃ v, av = AF v ∧ FP.f2d v &&& 0x7fffffffffffffff ≤ 0x7ff0000000000000
def ADbl : AV → Prop := fun av => ∃ v, av = AD v
/-- a call on both sides -/
def OpA (B : AV → Prop) (N : Int) (R : R4) (t : Option Out) (u : Nat → Nat → (Nat → Nat → Int) → Option Out) : Prop := Rn t (fun o => ∃ (av : AV) (h1 : Nat → Nat → Int) (r1 d1 : Nat), o = (.inl av, (KS r1 d1, h1, R)) ∧ B av ∧ Rn (u r1 d1 h1) (fun o2 => ∃ h2, o2 = (.inl av, (KS r1 d1, h2, R)) ∧ Rel r1 d1 (N + 31) h2 h2))
/-- asked, with an index -/
theorem opQ {A : Prop} {c : Int} {B : Int → Prop} {u : (Nat → Nat → Int) → R4 → Option Out} (hc : c ≠ 0) (ht : A → Rn t (fun o => ∃ h1, CqP r d N h h1 ∧ o = (.inl (AI 0), (KS r d, hput h1 282 0 v, R)))) (hf : ¬ A → Rn t (fun o => ∃ h1, CqP r d N h h1 ∧ o = (.inl (AI c), bump (KS r d, h1, R)))) (rt : A → ∀ h1 R1, h1 269 = h 269 → Rn (u h1 R1) (fun o => ∃ h2, (Qx h1 h2 ∧ h2 268 6 = 0) ∧ o = (.inl (AI v), (KS r d, h2, R1)))) (rf : ¬ A → ∀ h1 R1, h1 269 = h 269 → Rn (u h1 R1) (fun o => ∃ h2, (Qx h1 h2 ∧ h2 268 6 = c) ∧ o = (.inl (AI 0), (KS r d, h2, R1)))) (hB : A → B v) : OpB r d N R t u B := by
  by_cases z : A
  · refine (ht z).mono (fun o ⟨h1, q, e⟩ => ⟨0, hput h1 282 0 v, R, e, Or.inl rfl, ?_⟩)
    have e9 : hput h1 282 0 v 269 = h 269 := (hput_w rfl (by decide)).trans (funext fun y => q.2 269 y (by decide))
    refine (rt z _ R e9).mono (fun o2 ⟨h2, ⟨p1, p2⟩, e2⟩ => ⟨v, h2, e2, p2, fun _ => ⟨(p1 282 0 (by unfold scr; omega) (by decide)).trans hput_s, hB z⟩, (p1.rel q (fun x y y1 => hput_k y1)).up (by omega)⟩)
  · refine (hf z).mono (fun o ⟨h1, q, e⟩ => ⟨c, h1, (R.1 + 1, R.2.1 + 6, R.2.2), e, Or.inr rfl, ?_⟩)
    have e9 : h1 269 = h 269 := funext fun y => q.2 269 y (by decide)
    exact (rf z _ _ e9).mono (fun o2 ⟨h2, ⟨p1, p2⟩, e2⟩ => ⟨0, h2, e2, p2, fun y => absurd y hc, (p1.rel q (fun x y _ => rfl)).up (by omega)⟩)
/-- asked -/
theorem opQA {av : AV} {B : AV → Prop} {u : Nat → Nat → (Nat → Nat → Int) → Option Out} {tc : Int} (ht : Rn t (fun o => ∃ h1, CqP r d N h h1 ∧ o = (.inl av, (KS r d, h1, R)))) (rt : ∀ h1, h1 269 = h 269 → (∀ x y, 268 ≤ x → h1 x y = h x y) → Rn (u r d h1) (fun o => ∃ h2, (Qx h1 h2 ∧ h2 268 6 = tc) ∧ o = (.inl av, (KS r d, h2, R)))) (hB : B av) : OpA B N R t u := by
  refine ht.mono (fun o ⟨h1, q, e⟩ => ⟨av, h1, r, d, e, hB, ?_⟩)
  have e9 : h1 269 = h 269 := funext fun y => q.2 269 y (by decide)
  exact (rt h1 e9 q.2).mono (fun o2 ⟨h2, ⟨p1, p2⟩, e2⟩ => ⟨h2, e2, (p1.rel q (fun x y _ => rfl)).up (by omega)⟩)
/-- a change, remembered -/
theorem ClQ.put {f : Nat → Int} {h1 : Nat → Nat → Int} (p : ClQ h w f h1) : ∀ x y, 156 ≤ x → h1 x y = h x y := fun x y z => p.1 x y (by omega) (by omega) (by omega)
theorem opC {f : Nat → Int} {h1 h2 h3 : Nat → Nat → Int} (q : Rel r d N h h) (p : ClQ h (h 269) f h1) (e : ∀ x y, x ≠ 282 → h2 x y = h1 x y) (c : ∃ h4, Rem (hput h2 268 6 0) (h 269) h4 ∧ Ch h4 f h3) (hf : WFd f M) (hx : EX f) (hs : SameR (h 269) f) (hN : N ≤ M) : Rel r d M h3 h3 ∧ h3 268 6 = 0 ∧ h3 282 0 = h2 282 0 := by
  obtain ⟨h4, ⟨c1, c2, c3, c4⟩, c5, c6⟩ := c
  have pe : ∀ x y, 268 ≤ x → x ≠ 282 → h2 x y = h x y := fun x y y1 y2 => (e x y y2).trans (p.put x y (by omega))
  have e3 : ∀ x y, ¬ scr x y → x ≠ 269 → x ≠ 272 → ¬ (x = 268 ∧ (y = 4 ∨ y = 6)) → h3 x y = h2 x y := fun x y y1 y2 y3 y4 => (c6 x y y1 y2).trans ((c4 x y y3 (by omega)).trans (if_neg (by omega)))
  have e4 : hput h2 268 6 0 268 4 = h 268 4 := (hput_j (by decide)).trans (pe _ _ (by decide) (by decide))
  have e34 : h3 268 4 = h4 268 4 := c6 _ _ (by unfold scr; omega) (by decide)
  have e372 : ∀ y, h3 272 y = h4 272 y := fun y => c6 _ _ (by unfold scr; omega) (by decide)
  rw [e4] at c1
  have rf : RfC h (h 269) f h3 := by
    refine ⟨c5, e34.trans c1, fun i j i1 j1 => ?_, fun i j i1 j1 => ?_, fun x y z => (e3 x y (by unfold scr; omega) (by omega) (by omega) (by omega)).trans (pe x y (by omega) (by omega))⟩
    · rw [e34] at i1
      rw [e372, c2 i j i1 j1, e4]
      exact (hput_k (by decide)).trans (pe _ _ (by decide) (by decide))
    · rw [e34] at i1
      rw [e372]
      exact c3 i j i1 j1
  refine ⟨(q.ch p rf hf hx hs hN).both (fun x y z => (e3 x y (by unfold scr; omega) (by omega) (by omega) (by omega)).trans (e x y (by omega))) (fun _ _ _ => rfl), ?_, e3 282 0 (by unfold scr; omega) (by decide) (by decide) (by decide)⟩
  exact (c6 268 6 (by unfold scr; omega) (by decide)).trans ((c4 268 6 (by decide) (by decide)).trans hput_s)
/-- a change through a catch: done -/
theorem opCt {f : Nat → Int} {B : Int → Prop} {u : (Nat → Nat → Int) → R4 → Option Out} (q : Rel r d N h h) (ht : Rn t (fun o => ∃ h1, ClQ h (h 269) f h1 ∧ o = (.inl (AI 0), (KS r d, hput h1 282 0 v, R)))) (rt : ∀ h1 R1, h1 269 = h 269 → h1 268 4 = h 268 4 → Rn (u h1 R1) (CQ r d R1 h1 (h 269) f v)) (hf : WFd f (N + 31)) (hx : EX f) (hs : SameR (h 269) f) (hB : B v) : OpB r d N R t u B := by
  refine ht.mono (fun o ⟨h1, p, e⟩ => ⟨0, hput h1 282 0 v, R, e, Or.inl rfl, ?_⟩)
  have e9 : hput h1 282 0 v 269 = h 269 := (hput_w rfl (by decide)).trans (funext fun y => p.put 269 y (by decide))
  refine (rt _ R e9 ((hput_k (by decide)).trans (p.put _ _ (by decide)))).mono (fun o2 ⟨h4, h3, c1, c2, e2⟩ => ?_)
  obtain ⟨z1, z2, z3⟩ := opC q p (fun x y y1 => hput_k y1) ⟨h4, c1, c2⟩ hf hx hs (show N ≤ N + 31 by omega)
  exact ⟨v, h3, e2, z2, fun _ => ⟨z3.trans hput_s, hB⟩, z1⟩
theorem opCA {f : Nat → Int} {u : Nat → Nat → (Nat → Nat → Int) → Option Out} (q : Rel r d N h h) (ht : Rn t (ChC r d R h (h 269) f v)) (rt : ∀ h1, h1 269 = h 269 → h1 268 4 = h 268 4 → Rn (u r d h1) (CQ r d R h1 (h 269) f v)) (hf : WFd f (N + 31)) (hx : EX f) (hs : SameR (h 269) f) : OpA AInt N R t u := by
  refine ht.mono (fun o ⟨h1, p, e⟩ => ⟨AI v, h1, r, d, e, ⟨_, rfl⟩, ?_⟩)
  have e9 : h1 269 = h 269 := funext fun y => p.put 269 y (by decide)
  refine (rt _ e9 (p.put _ _ (by decide))).mono (fun o2 ⟨h4, h3, c1, c2, e2⟩ => ?_)
  obtain ⟨z1, z2, z3⟩ := opC q p (fun x y _ => rfl) ⟨h4, c1, c2⟩ hf hx hs (show N ≤ N + 31 by omega)
  exact ⟨h3, e2, z1⟩
/-- a change that is refused -/
theorem opCf {c : Int} {B : Int → Prop} {u : (Nat → Nat → Int) → R4 → Option Out} (hc : c ≠ 0) (hf : Rn t (fun o => ∃ h1, CqP r d N h h1 ∧ o = (.inl (AI c), bump (KS r d, h1, R)))) (rf : ∀ h1 R1, h1 269 = h 269 → (∀ x y, 268 ≤ x → h1 x y = h x y) → Rn (u h1 R1) (fun o => ∃ h2, (Qx h1 h2 ∧ h2 268 6 = c) ∧ o = (.inl (AI 0), (KS r d, h2, R1)))) : OpB r d N R t u B := by
  refine hf.mono (fun o ⟨h1, q, e⟩ => ⟨c, h1, (R.1 + 1, R.2.1 + 6, R.2.2), e, Or.inr rfl, ?_⟩)
  have e9 : h1 269 = h 269 := funext fun y => q.2 269 y (by decide)
  exact (rf _ _ e9 q.2).mono (fun o2 ⟨h2, ⟨p1, p2⟩, e2⟩ => ⟨0, h2, e2, p2, fun y => absurd y hc, (p1.rel q (fun x y _ => rfl)).up (by omega)⟩)
end A

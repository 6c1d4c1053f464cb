/-! the class's reading, as the reference's -/
section A
variable {K : List AKd} {h : Nat → Nat → Int} {R : R4} {σ : Sg} {r d : Nat} {w : Nat → Int} {b : Nat → Int} {n : Int}
/-- reading has not failed -/
def GT (h : Nat → Nat → Int) (b : Nat → Int) (n : Int) (T : Tk) : Prop := PT h b n T ∧ h 2 6 = 0 ∧ h 2 7 = -1
/-- only the text's object has changed, not its length -/
def TxO (h h1 : Nat → Nat → Int) : Prop := ∀ x y, ¬ (x = 2 ∧ 2 ≤ y ∧ y ≤ 7) → h1 x y = h x y
theorem TxO.rf : TxO h h := fun _ _ _ => rfl
theorem TxO.tr {h1 h2 : Nat → Nat → Int} (p : TxO h h1) (q : TxO h1 h2) : TxO h h2 := fun x y z => (q x y z).trans (p x y z)
theorem TcF.o {h1 : Nat → Nat → Int} (q : TcF h h1) : TxO h h1 := fun x y z => q x y (by omega)
/-- it has failed, with e -/
def FT (h : Nat → Nat → Int) (b : Nat → Int) (n : Int) (e : Int × Int × (Nat → Int)) : Prop := (h 2 6 = e.1 ∧ e.1 ≠ 0 ∧ h 2 7 = e.2.1) ∧ ∃ T, PT h b n T
theorem PT.fr {T : Tk} {h1 : Nat → Nat → Int} (q : PT h b n T) (e : ∀ x y, (x = 2 ∧ 1 ≤ y ∧ y ≤ 5) ∨ x = 3 → h1 x y = h x y) : PT h1 b n T := by
  obtain ⟨⟨a1, a2, a3, a0⟩, ⟨a4, a5, a6, a7⟩, a10, a11, a12⟩ := q
  exact ⟨⟨(funext fun y => e 3 y (by omega)).trans a1, (e _ _ (by omega)).trans a2, a3, a0⟩, ⟨(e _ _ (by omega)).trans a4, (e _ _ (by omega)).trans a5, (e _ _ (by omega)).trans a6, fun z => (e _ _ (by omega)).trans (a7 z)⟩, a10, a11, a12⟩
theorem GT.fr {T : Tk} {h1 : Nat → Nat → Int} (q : GT h b n T) (e : ∀ x y, x = 2 ∨ x = 3 → h1 x y = h x y) : GT h1 b n T := ⟨q.1.fr (fun x y z => e x y (by omega)), (e _ _ (by omega)).trans q.2.1, (e _ _ (by omega)).trans q.2.2⟩
theorem FT.fr {e0 : Int × Int × (Nat → Int)} {h1 : Nat → Nat → Int} (q : FT h b n e0) (e : ∀ x y, x = 2 ∨ x = 3 → h1 x y = h x y) : FT h1 b n e0 := by
  obtain ⟨⟨a1, a2, a3⟩, T, q⟩ := q
  exact ⟨⟨(e _ _ (by omega)).trans a1, a2, (e _ _ (by omega)).trans a3⟩, T, q.fr (fun x y z => e x y (by omega))⟩
theorem fle_e {c : Int} (h0 : h 2 6 = 0) : fle h c = hput (hput h 2 6 c) 2 7 (h 2 3) := if_pos h0
theorem fle_o {c : Int} : TxO h (fle h c) := fun x y z => by
  unfold fle
  split
  · exact (if_neg (by omega)).trans (if_neg (by omega))
  · rfl
theorem fle_F {c : Int} {T : Tk} {u : Nat → Int} (q : GT h b n T) (hc : c ≠ 0) : FT (fle h c) b n (c, T.1, u) := by
  rw [fle_e q.2.1]
  refine ⟨⟨(hput_j (by decide)).trans hput_s, hc, hput_s.trans q.1.2.1.1⟩, T, q.1.fr (fun x y z => ?_)⟩
  exact (if_neg (by omega)).trans (if_neg (by omega))
/-- reading goes on with m -/
def MRq (r d : Nat) (R : R4) (h : Nat → Nat → Int) (b : Nat → Int) (n : Int) (m : PM) (v : PS → AV) (v0 : AV) : Out → Prop := fun o =>
  (∃ s h1, (m = .inr s ∧ GT h1 b n s.2.1 ∧ TxO h h1) ∧ o = (.inl (v s), (KS r d, h1, R))) ∨ ∃ e h1, (m = .inl e ∧ FT h1 b n e ∧ TxO h h1) ∧ o = (.inl v0, (KS r d, h1, R))
theorem TcF.g {T : Tk} {h1 : Nat → Nat → Int} (q : TcF h h1) (p : PT h1 b n T) (h0 : h 2 6 = 0 ∧ h 2 7 = -1) : GT h1 b n T := ⟨p, (q _ _ (by omega)).trans h0.1, (q _ _ (by omega)).trans h0.2⟩
theorem m33 {k : Nat} {j f c : Int} {s : PS} (hk : ShNm (KS r d) k) (k0 : 0 < k) (hv : RNm h k s.1 f c) (hc : 0 ≤ s.1 c.toNat ∧ s.1 c.toNat ≤ 10) (q : GT h b n s.2.1) : Rn (ev 33 0 [AR 2, AR k, AU] [] (KS r d, h, R)) (MRq r d R h b n (mKn b n j f c s) (fun s => AI (s.2.2 j.toNat)) (AI (-1))) := by
  refine (s33 hk k0 hv hc q.1 q.2.1).mono (fun o p => ?_)
  unfold mKn
  rcases p with ⟨⟨p1, p2⟩, h1, ⟨p3, p4⟩, rfl⟩ | ⟨⟨p1, p2⟩, rfl⟩ | ⟨p1, rfl⟩
  · refine Or.inl ⟨_, h1, ⟨(if_neg (fun z => z p1)).trans (if_neg p2), p3.g p4 q.2, p3.o⟩, ?_⟩
    show _ = ((Sum.inl (AI (udI s.2.2 j.toNat (nhW s.1 f c b s.2.1) j.toNat)), _) : Out)
    unfold udI
    rw [if_pos rfl]
  · exact Or.inr ⟨_, _, ⟨(if_neg (fun z => z p1)).trans (if_pos p2), fle_F q (by decide), fle_o⟩, rfl⟩
  · exact Or.inr ⟨_, _, ⟨if_pos p1, fle_F q (by decide), fle_o⟩, rfl⟩
theorem tokv_r {p : Int} : 0 ≤ (tok b n p).2.2.1 ∨ True := Or.inr trivial
theorem m34 {j : Int} {s : PS} (q : GT h b n s.2.1) (hv : 0 ≤ s.2.1.2.2.1) : Rn (ev 34 0 [AR 2, AU] [] (KS r d, h, R)) (MRq r d R h b n (mNum b n j s) (fun s => AI (s.2.2 j.toNat)) (AI (-1))) := by
  refine (s34 q.1).mono (fun o p => ?_)
  unfold mNum
  rcases p with ⟨⟨p1, p2, p5⟩, h1, ⟨p3, p4⟩, rfl⟩ | ⟨⟨p1, p2, p5⟩, rfl⟩ | ⟨p1, rfl⟩
  · refine Or.inl ⟨_, h1, ⟨(if_neg (fun z => z p2)).trans (if_neg (fun z => z ⟨hv, p5⟩)), p3.g p4 q.2, p3.o⟩, ?_⟩
    show _ = ((Sum.inl (AI (udI s.2.2 j.toNat s.2.1.2.2.1 j.toNat)), _) : Out)
    unfold udI
    rw [if_pos rfl]
  · exact Or.inr ⟨_, _, ⟨(if_neg (fun z => z p2)).trans (if_pos (by omega)), fle_F q (by decide), fle_o⟩, rfl⟩
  · exact Or.inr ⟨_, _, ⟨if_pos (fun z => p1 ⟨q.2.1, z⟩), fle_F q (by decide), fle_o⟩, rfl⟩
def mOp (b : Nat → Int) (n : Int) (j g : Int) (s : PS) : PM := mWrd b n (if opx b g s.2.1 = -1 then 0 else 1) (setN s j (opx b g s.2.1))
theorem WoQ.m {j g : Int} {s : PS} {o : Out} (q : GT h b n s.2.1) (p : WoQ r d R h b n s.2.1 (opx b g s.2.1) o) : MRq r d R h b n (mOp b n j g s) (fun s => AI (s.2.2 j.toNat)) (AI (-1)) o := by
  unfold mOp mWrd
  rcases p with ⟨⟨p1, p2⟩, h1, ⟨p3, p4⟩, rfl⟩ | ⟨p1, rfl⟩
  · rw [if_neg p2, if_neg (by decide)]
    refine Or.inl ⟨_, h1, ⟨rfl, p3.g p4 q.2, p3.o⟩, ?_⟩
    show _ = ((Sum.inl (AI (udI s.2.2 j.toNat (opx b g s.2.1) j.toNat)), _) : Out)
    unfold udI
    rw [if_pos rfl]
  · have p2 : opx b g s.2.1 = -1 := Classical.byContradiction (fun z => p1 ⟨q.2.1, z⟩)
    rw [if_pos p2, if_pos rfl]
    exact Or.inr ⟨_, _, ⟨rfl, fle_F (T := s.2.1) q (by decide), fle_o⟩, rfl⟩
theorem m35 {j : Int} {s : PS} (q : GT h b n s.2.1) : Rn (ev 35 0 [AR 2] [] (KS r d, h, R)) (MRq r d R h b n (mOp b n j 1 s) (fun s => AI (s.2.2 j.toNat)) (AI (-1))) :=
  (s35 q.1).mono (fun o p => WoQ.m (g := 1) q p)
theorem m36 {j : Int} {s : PS} (q : GT h b n s.2.1) : Rn (ev 36 0 [AR 2] [] (KS r d, h, R)) (MRq r d R h b n (mOp b n j 0 s) (fun s => AI (s.2.2 j.toNat)) (AI (-1))) :=
  (s36 q.1).mono (fun o p => WoQ.m (g := 0) q p)
theorem m28 {t : Nat} {l : List Int} {s : PS} (q : GT h b n s.2.1) (ht : t < am_txt.length) (hl : text (t + 1) = l) : Rn (ev 28 0 [AR 2, AS (t + 1)] [] (KS r d, h, R)) (MRq r d R h b n (mWb b n (isW b s.2.1 l) s) (fun _ => AU) AU) := by
  subst hl
  refine (s28 ht q.1).mono (fun o p => ?_)
  unfold mWb
  rcases p with ⟨⟨p1, p2⟩, h1, ⟨p3, p4⟩, rfl⟩ | ⟨p1, rfl⟩
  · exact Or.inl ⟨_, h1, ⟨if_pos p2, p3.g p4 q.2, p3.o⟩, rfl⟩
  · exact Or.inr ⟨_, _, ⟨if_neg (fun z => p1 ⟨q.2.1, z⟩), fle_F q (by decide), fle_o⟩, rfl⟩
theorem m27t {t : Nat} {l : List Int} {s : PS} (q : GT h b n s.2.1) (ht : t < am_txt.length) (hl : text (t + 1) = l) (hw : isW b s.2.1 l = true) : Rn (ev 27 0 [AR 2, AS (t + 1)] [] (KS r d, h, R)) (fun o => ∃ h1, (GT h1 b n (adv b n s).2.1 ∧ TxO h h1) ∧ o = (.inl (AI 1), (KS r d, h1, R))) := by
  refine (s27l q.1 ht hl).mono (fun o p => ?_)
  rcases p with ⟨⟨p1, p2⟩, h1, ⟨p3, p4⟩, rfl⟩ | ⟨p1, rfl⟩
  · exact ⟨h1, ⟨p3.g p4 q.2, p3.o⟩, rfl⟩
  · exact absurd ⟨q.2.1, hw⟩ p1
theorem m27n {t : Nat} {l : List Int} {T : Tk} (q : PT h b n T) (ht : t < am_txt.length) (hl : text (t + 1) = l) (hw : ¬ (h 2 6 = 0 ∧ isW b T l = true)) : ev 27 0 [AR 2, AS (t + 1)] [] (KS r d, h, R) = some (.inl (AI 0), (KS r d, h, R)) := by
  refine Rn.eq ((s27l q ht hl).mono (fun o p => ?_))
  rcases p with ⟨p0, h1, ⟨p3, p4⟩, rfl⟩ | ⟨p1, rfl⟩
  · exact absurd p0 hw
  · rfl
theorem m30 {s : PS} (q : GT h b n s.2.1) : Rn (ev 30 0 [AR 2] [] (KS r d, h, R)) (MRq r d R h b n (mSem b n s) (fun _ => AU) AU) := by
  refine (s30 q.1).mono (fun o p => ?_)
  unfold mSem
  rcases p with ⟨⟨p1, p2⟩, h1, ⟨p3, p4⟩, rfl⟩ | ⟨p1, rfl⟩
  · exact Or.inl ⟨_, h1, ⟨if_pos p2, p3.g p4 q.2, p3.o⟩, rfl⟩
  · exact Or.inr ⟨_, _, ⟨if_neg (fun z => p1 ⟨q.2.1, z⟩), fle_F q (by decide), fle_o⟩, rfl⟩
theorem m29 {x : Int} {s : PS} (q : GT h b n s.2.1) : Rn (ev 29 0 [AR 2, AI x] [] (KS r d, h, R)) (MRq r d R h b n (if x = 0 then err 5 s else .inr (adv b n s)) (fun _ => AU) AU) := by
  refine (s29 q.1).mono (fun o p => ?_)
  rcases p with ⟨p1, h1, ⟨p3, p4⟩, rfl⟩ | ⟨p1, rfl⟩
  · exact Or.inl ⟨_, h1, ⟨if_neg p1, p3.g p4 q.2, p3.o⟩, rfl⟩
  · exact Or.inr ⟨_, _, ⟨if_pos p1, fle_F q (by decide), fle_o⟩, rfl⟩
/-- once it has failed nothing is read -/
theorem f34 {T : Tk} (q : PT h b n T) (h0 : h 2 6 ≠ 0) : ev 34 0 [AR 2, AU] [] (KS r d, h, R) = some (.inl (AI (-1)), (KS r d, h, R)) := by
  refine Rn.eq ((s34 q).mono (fun o p => ?_))
  rcases p with ⟨⟨p1, p2, p5⟩, h1, ⟨p3, p4⟩, rfl⟩ | ⟨⟨p1, p2, p5⟩, rfl⟩ | ⟨p1, rfl⟩
  · exact absurd p1 h0
  · exact absurd p1 h0
  · rw [fle_n h0]
theorem f35 {T : Tk} (q : PT h b n T) (h0 : h 2 6 ≠ 0) : ev 35 0 [AR 2] [] (KS r d, h, R) = some (.inl (AI (-1)), (KS r d, h, R)) := by
  refine Rn.eq ((s35 q).mono (fun o p => ?_))
  rcases p with ⟨⟨p1, p2⟩, h1, ⟨p3, p4⟩, rfl⟩ | ⟨p1, rfl⟩
  · exact absurd p1 h0
  · rw [fle_n h0]
theorem f36 {T : Tk} (q : PT h b n T) (h0 : h 2 6 ≠ 0) : ev 36 0 [AR 2] [] (KS r d, h, R) = some (.inl (AI (-1)), (KS r d, h, R)) := by
  refine Rn.eq ((s36 q).mono (fun o p => ?_))
  rcases p with ⟨⟨p1, p2⟩, h1, ⟨p3, p4⟩, rfl⟩ | ⟨p1, rfl⟩
  · exact absurd p1 h0
  · rw [fle_n h0]
theorem f28 {t : Nat} {T : Tk} (q : PT h b n T) (h0 : h 2 6 ≠ 0) (ht : t < am_txt.length) : ev 28 0 [AR 2, AS (t + 1)] [] (KS r d, h, R) = some (.inl AU, (KS r d, h, R)) := by
  refine Rn.eq ((s28 ht q).mono (fun o p => ?_))
  rcases p with ⟨⟨p1, p2⟩, h1, ⟨p3, p4⟩, rfl⟩ | ⟨p1, rfl⟩
  · exact absurd p1 h0
  · rw [fle_n h0]
theorem f30 {T : Tk} (q : PT h b n T) (h0 : h 2 6 ≠ 0) : ev 30 0 [AR 2] [] (KS r d, h, R) = some (.inl AU, (KS r d, h, R)) := by
  refine Rn.eq ((s30 q).mono (fun o p => ?_))
  rcases p with ⟨⟨p1, p2⟩, h1, ⟨p3, p4⟩, rfl⟩ | ⟨p1, rfl⟩
  · exact absurd p1 h0
  · rw [fle_n h0]
theorem f26 {t : Nat} {T : Tk} (ht : t < am_txt.length) (hP : PT h b n T) (h0 : h 2 6 ≠ 0) : ev 26 0 [AR 2, AS (t + 1), AU] [] (KS r d, h, R) = some (.inl (AI 0), (KS r d, h, R)) := by
  rw [s26 ht hP, b2i_f (fun z => h0 z.1)]
end A

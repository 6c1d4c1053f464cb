/-! the class's reading: invariants -/
section A
variable {K : List AKd} {h : Nat → Nat → Int} {R : R4} {σ : Sg} {r d : Nat} {w : Nat → Int} {b : Nat → Int} {n : Int}
theorem RTr.ag {k : Nat} {u : Nat → Int} (q : RTr h k w) (h3 : 0 ≤ w 3 ∧ w 3 ≤ 24) (e3 : u 3 = w 3) (e : ∀ y, 93 ≤ y → y < 309 → u y = w y) : RTr h k u := by
  refine ⟨q.1.trans e3.symm, fun t ht => ?_⟩
  have z := q.2 t (by omega)
  unfold RTr1 tr at z ⊢
  rw [e _ (by omega) (by omega), e _ (by omega) (by omega), e _ (by omega) (by omega), e _ (by omega) (by omega), e _ (by omega) (by omega), e _ (by omega) (by omega), e _ (by omega) (by omega), e _ (by omega) (by omega), e _ (by omega) (by omega)]
  exact z
/-- the rules k, their transitions aside, are those of w -/
def RGo (h : Nat → Nat → Int) (k : Nat) (w : Nat → Int) : Prop := (RNm h (k + 1) w 357 0 ∧ RNm h (k + 14) w 427 1 ∧ RNm h (k + 27) w 483 2) ∧ RCf h (k + 40) (startW w) ∧ RIv h (k + 42) w
def RRl (h : Nat → Nat → Int) (k : Nat) (w : Nat → Int) : Prop := RGo h k w ∧ RTr h k w
theorem RGo.fr {k : Nat} {h1 : Nat → Nat → Int} (q : RGo h k w) (hW : WFb w) (e : ∀ x y, k < x → x < k + 47 → h1 x y = h x y) : RGo h1 k w := by
  obtain ⟨v0, v1, v2, -, -⟩ := hW
  obtain ⟨⟨q1, q2, q3⟩, q4, q5⟩ := q
  exact ⟨⟨q1.fr v0.2 (fun x y z1 z2 => e x y (by omega) (by omega)), q2.fr (Int.le_trans v1.2 (by decide)) (fun x y z1 z2 => e x y (by omega) (by omega)), q3.fr (Int.le_trans v2.2 (by decide)) (fun x y z1 z2 => e x y (by omega) (by omega))⟩, q4.fr (fun x y z1 z2 => e x y (by omega) (by omega)), q5.fr (fun x y z1 z2 => e x y (by omega) (by omega))⟩
theorem RGo.ag {k : Nat} {u : Nat → Int} (q : RGo h k w) (hW : WFm w) (e : ∀ y, y ≠ 3 → (y < 93 ∨ 309 ≤ y) → u y = w y) : RGo h k u := by
  obtain ⟨⟨v0, v1, v2, -, v4⟩, -, ⟨n0, n1, n2⟩, -⟩ := hW
  obtain ⟨⟨q1, q2, q3⟩, q4, q5⟩ := q
  refine ⟨⟨q1.ag (e 0 (by decide) (by decide)) (fun i hi => (n0 i (by omega) hi).2) (fun i hi y y1 y2 => e y (by omega) (by omega)) (by decide), q2.ag (e 1 (by decide) (by decide)) (fun i hi => (n1 i (by omega) hi).2) (fun i hi y y1 y2 => e y (by omega) (by omega)) (by decide), q3.ag (e 2 (by decide) (by decide)) (fun i hi => (n2 i (by omega) hi).2) (fun i hi y y1 y2 => e y (by omega) (by omega)) (by decide)⟩, ?_, q5.ag v4 (e 4 (by decide) (by decide)) (fun y y1 y2 => e y (by omega) (by omega))⟩
  unfold startW
  rw [e 9 (by decide) (by decide), e 10 (by decide) (by decide), e 11 (by decide) (by decide)]
  exact q4
/-- the rules at rest -/
def CRl (h : Nat → Nat → Int) (k : Nat) (w : Nat → Int) : Prop := (RNm h (k + 1) w 357 0 ∧ RNm h (k + 14) w 427 1 ∧ RNm h (k + 27) w 483 2) ∧ RCf h (k + 40) (startW w) ∧ RTr h k w
theorem CRl.fr {k : Nat} {h1 : Nat → Nat → Int} (q : CRl h k w) (hW : WFb w) (e : ∀ x y, k ≤ x → x < k + 56 → h1 x y = h x y) : CRl h1 k w := by
  obtain ⟨v0, v1, v2, -, -⟩ := hW
  obtain ⟨⟨q1, q2, q3⟩, q4, q5⟩ := q
  exact ⟨⟨q1.fr v0.2 (fun x y z1 z2 => e x y (by omega) (by omega)), q2.fr (Int.le_trans v1.2 (by decide)) (fun x y z1 z2 => e x y (by omega) (by omega)), q3.fr (Int.le_trans v2.2 (by decide)) (fun x y z1 z2 => e x y (by omega) (by omega))⟩, q4.fr (fun x y z1 z2 => e x y (by omega) (by omega)), q5.fr (fun x y z => e x y (by omega) (by omega))⟩
/-- only the rules k and the text's object have changed -/
def FmO (k : Nat) (h h1 : Nat → Nat → Int) : Prop := ∀ x y, ¬ (x = 2 ∧ 2 ≤ y ∧ y ≤ 7) → (x < k ∨ k + 56 ≤ x ∨ x = k + 40) → h1 x y = h x y
theorem FmO.tr {k : Nat} {h1 h2 : Nat → Nat → Int} (p : FmO k h h1) (q : FmO k h1 h2) : FmO k h h2 := fun x y z z2 => (q x y z z2).trans (p x y z z2)
theorem TxO.m {k : Nat} {h1 : Nat → Nat → Int} (p : TxO h h1) : FmO k h h1 := fun x y z _ => p x y z
theorem FmO.put {k x j : Nat} {v : Int} {h1 : Nat → Nat → Int} (p : FmO k h h1) (h2 : k ≤ x) (h3 : x < k + 56) (h4 : x ≠ k + 40) : FmO k h (hput h1 x j v) := fun a y z1 z2 => (hput_k (by omega)).trans (p a y z1 z2)
/-- a piece of the text is read as m -/
def RdQ (r d : Nat) (R : R4) (h : Nat → Nat → Int) (b : Nat → Int) (n : Int) (k : Nat) (m : PM) : Out → Prop := fun o =>
  (∃ s h1, (m = .inr s ∧ GT h1 b n s.2.1 ∧ RRl h1 k s.1 ∧ FmO k h h1) ∧ o = (.inl AU, (KS r d, h1, R))) ∨ ∃ e h1, (m = .inl e ∧ FT h1 b n e ∧ FmO k h h1) ∧ o = (.inl AU, (KS r d, h1, R))
/-- it has failed before: nothing is read -/
def RfQ (r d : Nat) (R : R4) (h : Nat → Nat → Int) (b : Nat → Int) (n : Int) (k : Nat) (e : Int × Int × (Nat → Int)) : Out → Prop := fun o => ∃ h1, (FT h1 b n e ∧ FmO k h h1) ∧ o = (.inl AU, (KS r d, h1, R))
theorem RfQ.to {h0 : Nat → Nat → Int} {k : Nat} {e : Int × Int × (Nat → Int)} {m : PM} {o : Out} (p : FmO k h0 h) (hm : m = .inl e) (q : RfQ r d R h b n k e o) : RdQ r d R h0 b n k m o := by
  obtain ⟨h1, ⟨q1, q2⟩, rfl⟩ := q
  exact Or.inr ⟨e, h1, ⟨hm, q1, p.tr q2⟩, rfl⟩
def addH (h : Nat → Nat → Int) (k : Nat) (p x1 x2 x3 x4 : Int) : Nat → Nat → Int := hput (hput (hput (hput (hput h (k + 1) p.toNat x1) (k + 2) p.toNat x2) (k + 3) p.toNat x3) (k + 4) p.toNat x4) k 0 (p + 1)
theorem s38 {k : Nat} {p x1 x2 x3 x4 : Int} (hk : ShIv (KS r d) k) (k0 : 0 < k) (e : h k 0 = p) (hp : 0 ≤ p ∧ p < 12) : ev 38 0 [AR k, AI x1, AI x2, AI x3, AI x4] [] (KS r d, h, R) = some (.inl AU, (KS r d, addH h k p x1 x2 x3 x4, R)) := by
  refine Rn.eq ?_
  obtain ⟨k1, k2, k3, k4, k5⟩ := hk
  refine w_aloadn f38_0 rfl (by omega) ?_
  refine w_getI f38_1 (by decide) (by assumption) (by exact e) ?_
  refine w_bipush (v := 12) f38_4 (by decide) ?_
  refine w_ic_lt (t := 10) f38_6 (by decide) (fun c1 => ?_) (fun c1 => by omega)
  refine w_aloadn f38_10 rfl (by omega) ?_
  refine w_getR f38_11 (by assumption) rfl (by omega) ?_
  refine w_aloadn f38_14 rfl (by omega) ?_
  refine w_getI f38_15 (by decide) (by assumption) (by exact e) ?_
  refine w_iloadn f38_18 rfl ?_
  refine w_iast f38_19 (by assumption) (by omega) ?_
  refine w_aloadn f38_20 rfl (by omega) ?_
  refine w_getR f38_21 (by assumption) rfl (by omega) ?_
  refine w_aloadn f38_24 rfl (by omega) ?_
  refine w_getI f38_25 (by decide) (by assumption) (by exact (hput_k (by omega)).trans e) ?_
  refine w_iloadn f38_28 rfl ?_
  refine w_iast f38_29 (by assumption) (by omega) ?_
  refine w_aloadn f38_30 rfl (by omega) ?_
  refine w_getR f38_31 (by assumption) rfl (by omega) ?_
  refine w_aloadn f38_34 rfl (by omega) ?_
  refine w_getI f38_35 (by decide) (by assumption) (by exact (hput_k (by omega)).trans ((hput_k (by omega)).trans e)) ?_
  refine w_iloadn f38_38 rfl ?_
  refine w_iast f38_39 (by assumption) (by omega) ?_
  refine w_aloadn f38_40 rfl (by omega) ?_
  refine w_getR f38_41 (by assumption) rfl (by omega) ?_
  refine w_aloadn f38_44 rfl (by omega) ?_
  refine w_getI f38_45 (by decide) (by assumption) (by exact (hput_k (by omega)).trans ((hput_k (by omega)).trans ((hput_k (by omega)).trans e))) ?_
  refine w_iload f38_48 rfl ?_
  refine w_iast f38_50 (by assumption) (by omega) ?_
  refine w_aloadn f38_51 rfl (by omega) ?_
  refine w_dup f38_52 rfl ?_
  refine w_getI f38_53 (by decide) (by assumption) (by exact (hput_k (by omega)).trans ((hput_k (by omega)).trans ((hput_k (by omega)).trans ((hput_k (by omega)).trans e)))) ?_
  refine w_iconst (v := 1) f38_56 (by decide) ?_
  refine w_iaddn f38_57 (by omega) ?_
  refine w_putI f38_58 (by assumption) ?_
  refine w_ret f38_61 rfl ?_
  rfl
theorem RIv.add {k : Nat} {x1 x2 x3 x4 : Int} (q : RIv h k w) (h4 : 0 ≤ w 4 ∧ w 4 < 12) : RIv (addH h k (w 4) x1 x2 x3 x4) k (keepW w x1 x2 x3 x4) := by
  have e4 : keepW w x1 x2 x3 x4 4 = w 4 + 1 := by unfold keepW udI; rw [if_pos rfl]
  have eo : ∀ g : Nat, g ≠ 4 → ((g : Int) < 309 + 4 * w 4 ∨ 309 + 4 * w 4 + 3 < g) → keepW w x1 x2 x3 x4 g = w g := fun g q1 q2 => by
    unfold keepW udI
    rw [if_neg q1, if_neg (by omega), if_neg (by omega), if_neg (by omega), if_neg (by omega)]
  have t0 : iv (keepW w x1 x2 x3 x4) (w 4) 0 = x1 := by
    unfold iv keepW udI
    rw [if_neg (by omega), if_neg (by omega), if_neg (by omega), if_neg (by omega), if_pos rfl]
  have t1 : iv (keepW w x1 x2 x3 x4) (w 4) 1 = x2 := by
    unfold iv keepW udI
    rw [if_neg (by omega), if_neg (by omega), if_neg (by omega), if_pos rfl]
  have t2 : iv (keepW w x1 x2 x3 x4) (w 4) 2 = x3 := by
    unfold iv keepW udI
    rw [if_neg (by omega), if_neg (by omega), if_pos rfl]
  have t3 : iv (keepW w x1 x2 x3 x4) (w 4) 3 = x4 := by
    unfold iv keepW udI
    rw [if_neg (by omega), if_pos rfl]
  refine ⟨by rw [e4]; exact hput_s, fun i hi => ?_⟩
  rw [e4] at hi
  by_cases e : (i : Int) = w 4
  · have e2 : i = (w 4).toNat := by omega
    rw [e, t0, t1, t2, t3, e2]
    unfold addH
    exact ⟨by (repeat (first | refine Eq.trans hput_s ?_ | refine Eq.trans (hput_k (by omega)) ?_ | refine Eq.trans (hput_j (by first | decide | omega)) ?_ | refine Eq.trans (fiH_in (by omega)) ?_ | refine Eq.trans (fiH_k (by omega)) ?_ | refine Eq.trans (hcp_s (by omega)) ?_ | refine Eq.trans (hcp_k (by omega)) ?_)); rfl, by (repeat (first | refine Eq.trans hput_s ?_ | refine Eq.trans (hput_k (by omega)) ?_ | refine Eq.trans (hput_j (by first | decide | omega)) ?_ | refine Eq.trans (fiH_in (by omega)) ?_ | refine Eq.trans (fiH_k (by omega)) ?_ | refine Eq.trans (hcp_s (by omega)) ?_ | refine Eq.trans (hcp_k (by omega)) ?_)); rfl, by (repeat (first | refine Eq.trans hput_s ?_ | refine Eq.trans (hput_k (by omega)) ?_ | refine Eq.trans (hput_j (by first | decide | omega)) ?_ | refine Eq.trans (fiH_in (by omega)) ?_ | refine Eq.trans (fiH_k (by omega)) ?_ | refine Eq.trans (hcp_s (by omega)) ?_ | refine Eq.trans (hcp_k (by omega)) ?_)); rfl, by (repeat (first | refine Eq.trans hput_s ?_ | refine Eq.trans (hput_k (by omega)) ?_ | refine Eq.trans (hput_j (by first | decide | omega)) ?_ | refine Eq.trans (fiH_in (by omega)) ?_ | refine Eq.trans (fiH_k (by omega)) ?_ | refine Eq.trans (hcp_s (by omega)) ?_ | refine Eq.trans (hcp_k (by omega)) ?_)); rfl⟩
  · unfold iv
    rw [eo _ (by omega) (by omega), eo _ (by omega) (by omega), eo _ (by omega) (by omega), eo _ (by omega) (by omega)]
    obtain ⟨a1, a2, a3, a4⟩ := q.2 i (by omega)
    unfold addH
    exact ⟨by (repeat (first | refine Eq.trans hput_s ?_ | refine Eq.trans (hput_k (by omega)) ?_ | refine Eq.trans (hput_j (by first | decide | omega)) ?_ | refine Eq.trans (fiH_in (by omega)) ?_ | refine Eq.trans (fiH_k (by omega)) ?_ | refine Eq.trans (hcp_s (by omega)) ?_ | refine Eq.trans (hcp_k (by omega)) ?_)); exact a1, by (repeat (first | refine Eq.trans hput_s ?_ | refine Eq.trans (hput_k (by omega)) ?_ | refine Eq.trans (hput_j (by first | decide | omega)) ?_ | refine Eq.trans (fiH_in (by omega)) ?_ | refine Eq.trans (fiH_k (by omega)) ?_ | refine Eq.trans (hcp_s (by omega)) ?_ | refine Eq.trans (hcp_k (by omega)) ?_)); exact a2, by (repeat (first | refine Eq.trans hput_s ?_ | refine Eq.trans (hput_k (by omega)) ?_ | refine Eq.trans (hput_j (by first | decide | omega)) ?_ | refine Eq.trans (fiH_in (by omega)) ?_ | refine Eq.trans (fiH_k (by omega)) ?_ | refine Eq.trans (hcp_s (by omega)) ?_ | refine Eq.trans (hcp_k (by omega)) ?_)); exact a3, by (repeat (first | refine Eq.trans hput_s ?_ | refine Eq.trans (hput_k (by omega)) ?_ | refine Eq.trans (hput_j (by first | decide | omega)) ?_ | refine Eq.trans (fiH_in (by omega)) ?_ | refine Eq.trans (fiH_k (by omega)) ?_ | refine Eq.trans (hcp_s (by omega)) ?_ | refine Eq.trans (hcp_k (by omega)) ?_)); exact a4⟩
theorem addH_o {k : Nat} {p x1 x2 x3 x4 : Int} : Ot k 5 h (addH h k p x1 x2 x3 x4) := ((((Ot.rf.put (by omega) (by omega)).put (by omega) (by omega)).put (by omega) (by omega)).put (by omega) (by omega)).put (by omega) (by omega)
theorem dgE_v {s : Int} : ∀ (f : Nat) (p v : Int), 0 ≤ v → 0 ≤ (dgE b n s f p v).2
  | 0, _, _, h => h
  | f + 1, p, v, h => by
    simp only [dgE]
    split
    · refine dgE_v f _ _ ?_
      split <;> omega
    · exact h
theorem tok_v {p : Int} : 0 ≤ (tok b n p).2.2.1 := by
  unfold tok tkF
  split
  · exact Int.le_refl _
  · split
    · exact Int.le_refl _
    · split
      · exact dgE_v _ _ _ (Int.le_refl _)
      · exact Int.le_refl _
theorem mKn_t {j f c : Int} {s s1 : PS} (hm : mKn b n j f c s = .inr s1) : 0 ≤ s1.2.1.2.2.1 := by
  unfold mKn at hm
  split at hm
  · cases hm
  · split at hm
    · cases hm
    · cases hm; exact tok_v
theorem mOp_t {j g : Int} {s s1 : PS} (hm : mOp b n j g s = .inr s1) : 0 ≤ s1.2.1.2.2.1 ∧ s1.1 = s.1 ∧ s1.2.2 = udI s.2.2 j.toNat (opx b g s.2.1) := by
  unfold mOp mWrd at hm
  split at hm
  · cases hm
  · cases hm; exact ⟨tok_v, rfl, rfl⟩
theorem mNew_t {f c : Int} {s s1 : PS} (hm : mNew b n f c s = .inr s1) : 0 ≤ s1.2.1.2.2.1 ∧ s1.1 = naW s.1 (f + 7 * s.1 c.toNat) b s.2.1 ∧ isN s.2.1 := by
  unfold mNew at hm
  split at hm
  · cases hm
  · next q =>
    split at hm
    · cases hm
    · cases hm; exact ⟨tok_v, rfl, Classical.byContradiction q⟩
theorem mThr_u {k g : Int} {s : PS} : mThr b n k g s = pb (mKn b n k 483 2 s) (fun s => pb (mOp b n (k + 1) g s) (fun s => mNum b n (k + 2) s)) := rfl
theorem x33 {k : Nat} {e : Int × Int × (Nat → Int)} {h1 : Nat → Nat → Int} (q : FT h b n e) (eh : ∀ x y, x = 2 ∨ x = 3 → h1 x y = h x y) : ev 33 0 [AR 2, AR k, AU] [] (KS r d, h1, R) = some (.inl (AI (-1)), (KS r d, h1, R)) := by
  obtain ⟨⟨a1, a2, a3⟩, T, q⟩ := q.fr eh
  exact s33f q (by rw [a1]; exact a2)
theorem x34 {e : Int × Int × (Nat → Int)} {h1 : Nat → Nat → Int} (q : FT h b n e) (eh : ∀ x y, x = 2 ∨ x = 3 → h1 x y = h x y) : ev 34 0 [AR 2, AU] [] (KS r d, h1, R) = some (.inl (AI (-1)), (KS r d, h1, R)) := by
  obtain ⟨⟨a1, a2, a3⟩, T, q⟩ := q.fr eh
  exact f34 q (by rw [a1]; exact a2)
theorem x35 {e : Int × Int × (Nat → Int)} {h1 : Nat → Nat → Int} (q : FT h b n e) (eh : ∀ x y, x = 2 ∨ x = 3 → h1 x y = h x y) : ev 35 0 [AR 2] [] (KS r d, h1, R) = some (.inl (AI (-1)), (KS r d, h1, R)) := by
  obtain ⟨⟨a1, a2, a3⟩, T, q⟩ := q.fr eh
  exact f35 q (by rw [a1]; exact a2)
theorem x36 {e : Int × Int × (Nat → Int)} {h1 : Nat → Nat → Int} (q : FT h b n e) (eh : ∀ x y, x = 2 ∨ x = 3 → h1 x y = h x y) : ev 36 0 [AR 2] [] (KS r d, h1, R) = some (.inl (AI (-1)), (KS r d, h1, R)) := by
  obtain ⟨⟨a1, a2, a3⟩, T, q⟩ := q.fr eh
  exact f36 q (by rw [a1]; exact a2)
theorem x28 {t : Nat} {e : Int × Int × (Nat → Int)} {h1 : Nat → Nat → Int} (q : FT h b n e) (ht : t < am_txt.length) (eh : ∀ x y, x = 2 ∨ x = 3 → h1 x y = h x y) : ev 28 0 [AR 2, AS (t + 1)] [] (KS r d, h1, R) = some (.inl AU, (KS r d, h1, R)) := by
  obtain ⟨⟨a1, a2, a3⟩, T, q⟩ := q.fr eh
  exact f28 q (by rw [a1]; exact a2) ht
theorem x27 {t : Nat} {e : Int × Int × (Nat → Int)} {h1 : Nat → Nat → Int} (q : FT h b n e) (ht : t < am_txt.length) (eh : ∀ x y, x = 2 ∨ x = 3 → h1 x y = h x y) : ev 27 0 [AR 2, AS (t + 1)] [] (KS r d, h1, R) = some (.inl (AI 0), (KS r d, h1, R)) := by
  obtain ⟨⟨a1, a2, a3⟩, T, q⟩ := q.fr eh
  exact m27n q ht rfl (fun z => a2 (a1.symm.trans z.1))
theorem x30 {e : Int × Int × (Nat → Int)} {h1 : Nat → Nat → Int} (q : FT h b n e) (eh : ∀ x y, x = 2 ∨ x = 3 → h1 x y = h x y) : ev 30 0 [AR 2] [] (KS r d, h1, R) = some (.inl AU, (KS r d, h1, R)) := by
  obtain ⟨⟨a1, a2, a3⟩, T, q⟩ := q.fr eh
  exact f30 q (by rw [a1]; exact a2)
theorem x32 {k : Nat} {e : Int × Int × (Nat → Int)} {h1 : Nat → Nat → Int} (q : FT h b n e) (eh : ∀ x y, x = 2 ∨ x = 3 → h1 x y = h x y) : ev 32 0 [AR 2, AR k] [] (KS r d, h1, R) = some (.inl AU, (KS r d, h1, R)) := by
  obtain ⟨⟨a1, a2, a3⟩, T, q⟩ := q.fr eh
  exact s32f q (by rw [a1]; exact a2)
end A

/-! the class's reading: names, variables -/
section A
variable {K : List AKd} {h : Nat → Nat → Int} {R : R4} {σ : Sg} {r d : Nat} {w : Nat → Int} {b : Nat → Int} {n : Int}
theorem aw_o {f c m : Int} {T : Tk} (hN : NC f c m) (hc : 0 ≤ w c.toNat) {y : Nat} (h1 : y ≠ c.toNat) (h2 : (y : Int) < f + 7 * w c.toNat ∨ f + 7 * w c.toNat + 6 < y) : addW w f c b T y = w y := by
  have e : addW w f c b T y = naW w (f + 7 * w c.toNat) b T y := if_neg h1
  rw [e]
  unfold NC at hN
  rcases h2 with h2 | h2
  · exact naW_lo h2
  · exact naW_o2 ⟨h2, by omega⟩
theorem aw_c {f c : Int} {T : Tk} : addW w f c b T c.toNat = w c.toNat + 1 := if_pos rfl
theorem na_c {f c m : Int} {T : Tk} (hN : NC f c m) (hc : 0 ≤ w c.toNat) : udI (naW w (f + 7 * w c.toNat) b T) c.toNat (naW w (f + 7 * w c.toNat) b T c.toNat + 1) = addW w f c b T := by
  unfold NC at hN
  unfold addW
  rw [show naW w (f + 7 * w c.toNat) b T c.toNat = w c.toNat from naW_lo (by omega)]
/-- a new name is read: NwF: the frame -/
def NwF (k : Nat) (h h1 : Nat → Nat → Int) : Prop := ∀ x y, ¬ (x = 2 ∧ 2 ≤ y ∧ y ≤ 5) → (x < k ∨ k + 13 ≤ x) → h1 x y = h x y
theorem m32 {k : Nat} {f c m : Int} {s : PS} (hN : NC f c m) (hk : ShNm (KS r d) k) (k0 : 3 < k) (hv : RNm h k s.1 f c) (hc : 0 ≤ s.1 c.toNat ∧ s.1 c.toNat < m) (hl : ∀ i : Nat, (i : Int) < s.1 c.toNat → s.1 (f + 7 * i).toNat ≤ 6) (q : GT h b n s.2.1) : Rn (ev 32 0 [AR 2, AR k] [] (KS r d, h, R)) (fun o => (∃ s1 h1, (mNew b n f c s = .inr s1 ∧ GT h1 b n s1.2.1 ∧ RNm h1 k (addW s.1 f c b s.2.1) f c ∧ NwF k h h1) ∧ o = (.inl AU, (KS r d, h1, R))) ∨ ∃ e h1, (mNew b n f c s = .inl e ∧ FT h1 b n e ∧ TxO h h1) ∧ o = (.inl AU, (KS r d, h1, R))) := by
  have hf : 357 ≤ f ∧ (0 ≤ c ∧ c ≤ 2) ∧ m ≤ 10 := by unfold NC at hN; omega
  refine (s32 hk k0 hv hf.1 hf.2.1 ⟨hc.1, by omega⟩ hl q.1 q.2.1).mono (fun o p => ?_)
  unfold mNew
  rcases p with ⟨⟨p1, p2⟩, h1, ⟨p3, p4, p5⟩, rfl⟩ | ⟨⟨p1, p2⟩, rfl⟩ | ⟨p1, rfl⟩
  · exact Or.inl ⟨_, h1, ⟨(if_neg (fun z => z p1)).trans (if_neg (fun z => z p2)), ⟨p4, (p3 _ _ (by omega) (by omega)).trans q.2.1, (p3 _ _ (by omega) (by omega)).trans q.2.2⟩, p5, p3⟩, rfl⟩
  · exact Or.inr ⟨_, _, ⟨(if_neg (fun z => z p1)).trans (if_pos p2), fle_F q (by decide), fle_o⟩, rfl⟩
  · exact Or.inr ⟨_, _, ⟨if_pos p1, fle_F q (by decide), fle_o⟩, rfl⟩
theorem NwF.m {k l : Nat} {h1 : Nat → Nat → Int} (p : NwF l h h1) (h2 : k ≤ l) (h3 : l + 13 ≤ k + 40) : FmO k h h1 := fun x y z1 z2 => p x y (by omega) (by omega)
/-- the rules with a name more -/
theorem RRl.n0 {k : Nat} {T : Tk} {h1 : Nat → Nat → Int} (q : RRl h k w) (hW : WFm w) (hc : w 0 < 10) (k0 : 3 < k) (p : NwF (k + 1) h h1) (v : RNm h1 (k + 1) (addW w 357 0 b T) 357 0) : RRl h1 k (addW w 357 0 b T) := by
  obtain ⟨⟨v0, v1, v2, v3, v4⟩, -, ⟨n0, n1, n2⟩, -⟩ := id hW
  have eo : ∀ y : Nat, y ≠ 0 → (y < 357 ∨ 427 ≤ y) → addW w 357 0 b T y = w y := fun y q1 q2 => aw_o (m := 10) (Or.inl ⟨rfl, rfl, rfl⟩) v0.1 q1 (by show (y : Int) < 357 + 7 * w 0 ∨ 357 + 7 * w 0 + 6 < y; omega)
  obtain ⟨⟨⟨r1, r2, r3⟩, r4, r5⟩, r6⟩ := q
  have c1 : addW w 357 0 b T (1 : Int).toNat = w 1 := eo 1 (by decide) (by decide)
  have c2 : addW w 357 0 b T (2 : Int).toNat = w 2 := eo 2 (by decide) (by decide)
  refine ⟨⟨⟨v, ?_, ?_⟩, ?_, ?_⟩, ?_⟩
  · exact (r2.ag c1 (fun i hi => (n1 i (by omega) hi).2) (fun i hi y y1 y2 => eo y (by omega) (by omega)) (by decide)).fr (by rw [c1]; exact Int.le_trans v1.2 (by decide)) (fun x y z1 z2 => p x y (by omega) (by omega))
  · exact (r3.ag c2 (fun i hi => (n2 i (by omega) hi).2) (fun i hi y y1 y2 => eo y (by omega) (by omega)) (by decide)).fr (by rw [c2]; exact Int.le_trans v2.2 (by decide)) (fun x y z1 z2 => p x y (by omega) (by omega))
  · unfold startW
    rw [eo 9 (by decide) (by decide), eo 10 (by decide) (by decide), eo 11 (by decide) (by decide)]
    exact r4.fr (fun x y z1 z2 => p x y (by omega) (by omega))
  · exact (r5.ag v4 (eo 4 (by decide) (by decide)) (fun y y1 y2 => eo y (by omega) (by omega))).fr (fun x y z1 z2 => p x y (by omega) (by omega))
  · exact (r6.ag v3 (eo 3 (by decide) (by decide)) (fun y y1 y2 => eo y (by omega) (by omega))).fr (fun x y z => p x y (by omega) (by omega))
theorem RRl.n1 {k : Nat} {T : Tk} {h1 : Nat → Nat → Int} (q : RRl h k w) (hW : WFm w) (hc : w 1 < 8) (k0 : 3 < k) (p : NwF (k + 14) h h1) (v : RNm h1 (k + 14) (addW w 427 1 b T) 427 1) : RRl h1 k (addW w 427 1 b T) := by
  obtain ⟨⟨v0, v1, v2, v3, v4⟩, -, ⟨n0, n1, n2⟩, -⟩ := id hW
  have eo : ∀ y : Nat, y ≠ 1 → (y < 427 ∨ 483 ≤ y) → addW w 427 1 b T y = w y := fun y q1 q2 => aw_o (m := 8) (Or.inr (Or.inl ⟨rfl, rfl, rfl⟩)) v1.1 q1 (by show (y : Int) < 427 + 7 * w 1 ∨ 427 + 7 * w 1 + 6 < y; omega)
  obtain ⟨⟨⟨r1, r2, r3⟩, r4, r5⟩, r6⟩ := q
  have c1 : addW w 427 1 b T (0 : Int).toNat = w 0 := eo 0 (by decide) (by decide)
  have c2 : addW w 427 1 b T (2 : Int).toNat = w 2 := eo 2 (by decide) (by decide)
  refine ⟨⟨⟨?_, v, ?_⟩, ?_, ?_⟩, ?_⟩
  · exact (r1.ag c1 (fun i hi => (n0 i (by omega) hi).2) (fun i hi y y1 y2 => eo y (by omega) (by have hi : (i : Int) < w 0 := hi; omega)) (by decide)).fr (by rw [c1]; exact v0.2) (fun x y z1 z2 => p x y (by omega) (by omega))
  · exact (r3.ag c2 (fun i hi => (n2 i (by omega) hi).2) (fun i hi y y1 y2 => eo y (by omega) (by omega)) (by decide)).fr (by rw [c2]; exact Int.le_trans v2.2 (by decide)) (fun x y z1 z2 => p x y (by omega) (by omega))
  · unfold startW
    rw [eo 9 (by decide) (by decide), eo 10 (by decide) (by decide), eo 11 (by decide) (by decide)]
    exact r4.fr (fun x y z1 z2 => p x y (by omega) (by omega))
  · exact (r5.ag v4 (eo 4 (by decide) (by decide)) (fun y y1 y2 => eo y (by omega) (by omega))).fr (fun x y z1 z2 => p x y (by omega) (by omega))
  · exact (r6.ag v3 (eo 3 (by decide) (by decide)) (fun y y1 y2 => eo y (by omega) (by omega))).fr (fun x y z => p x y (by omega) (by omega))
theorem stW_v {u : Nat → Int} (h0 : 0 ≤ u 9 ∧ u 9 ≤ 9) (h1 : 0 ≤ u 10 ∧ u 10 ≤ 9) (h2 : 0 ≤ u 11 ∧ u 11 ≤ 9) : startW u / 1000 = 0 ∧ vIn (startW u) 0 = u 9 ∧ vIn (startW u) 1 = u 10 ∧ vIn (startW u) 2 = u 11 ∧ (0 ≤ startW u ∧ startW u ≤ 9999) := by
  obtain ⟨a1, a2, a3, a4⟩ := dgr (q := 0) h0 h1 h2
  have e : startW u = 1000 * 0 + 100 * u 11 + 10 * u 10 + u 9 := by unfold startW; omega
  rw [← e] at a1 a2 a3 a4
  exact ⟨a1, vIn0.trans a2, vIn1.trans a3, vIn2.trans a4, by omega⟩
theorem RCf.st {k : Nat} {u : Nat → Int} (h0 : 0 ≤ u 9 ∧ u 9 ≤ 9) (h1 : 0 ≤ u 10 ∧ u 10 ≤ 9) (h2 : 0 ≤ u 11 ∧ u 11 ≤ 9) (e0 : h k 0 = 0) (e1 : h (k + 1) 0 = u 9) (e2 : h (k + 1) 1 = u 10) (e3 : h (k + 1) 2 = u 11) : RCf h k (startW u) := by
  obtain ⟨a1, a2, a3, a4, -⟩ := stW_v h0 h1 h2
  refine ⟨e0.trans a1.symm, fun j hj => ?_⟩
  rcases (show j = 0 ∨ j = 1 ∨ j = 2 by omega) with rfl | rfl | rfl
  · exact e1.trans a2.symm
  · exact e2.trans a3.symm
  · exact e3.trans a4.symm
/-- a variable more -/
def vaW (w : Nat → Int) (b : Nat → Int) (T : Tk) (v : Int) : Nat → Int := udI (udI (naW w (483 + 7 * w 2) b T) (9 + w 2).toNat v) 2 (w 2 + 1)
theorem RRl.n2 {k : Nat} {T : Tk} {v : Int} {h1 h2 : Nat → Nat → Int} (q : RRl h k w) (hW : WFm w) (hc : w 2 < 3) (hv : 0 ≤ v ∧ v ≤ 9) (k0 : 3 < k) (p : NwF (k + 27) h h1) (z : RNm h1 (k + 27) (addW w 483 2 b T) 483 2) (o : TxO h1 h2) : RRl (hput h2 (k + 41) (w 2).toNat v) k (vaW w b T v) := by
  obtain ⟨⟨v0, v1, v2, v3, v4⟩, wi, ⟨n0, n1, n2⟩, -⟩ := id hW
  have eA : ∀ y : Nat, 12 ≤ y ∨ y = 2 → vaW w b T v y = addW w 483 2 b T y := fun y hy => by
    unfold vaW addW udI
    by_cases z : y = 2
    · rw [if_pos z, if_pos (by omega)]; rfl
    · rw [if_neg z, if_neg (by omega), if_neg (by omega)]; rfl
  have eo : ∀ y : Nat, y ≠ 2 → (y < 9 ∨ (12 ≤ y ∧ y < 483)) → vaW w b T v y = w y := fun y q1 q2 => by
    unfold vaW udI
    rw [if_neg q1, if_neg (by omega)]
    exact naW_lo (by omega)
  have ei : ∀ j : Nat, j < 3 → vaW w b T v (9 + j) = if j = (w 2).toNat then v else w (9 + j) := fun j hj => by
    unfold vaW udI
    by_cases z : j = (w 2).toNat
    · rw [if_pos z, if_neg (by omega), if_pos (by omega)]
    · rw [if_neg z, if_neg (by omega), if_neg (by omega)]
      exact naW_lo (by omega)
  have pp : ∀ x y, k ≤ x → (x < k + 27 ∨ k + 40 ≤ x) → ¬ (x = k + 41 ∧ y = (w 2).toNat) → hput h2 (k + 41) (w 2).toNat v x y = h x y := fun x y x1 x2 x3 => (if_neg x3).trans ((o x y (by omega)).trans (p x y (by omega) (by omega)))
  obtain ⟨⟨⟨r1, r2, r3⟩, r4, r5⟩, r6⟩ := q
  have c1 : vaW w b T v (0 : Int).toNat = w 0 := eo 0 (by decide) (by decide)
  have c2 : vaW w b T v (1 : Int).toNat = w 1 := eo 1 (by decide) (by decide)
  have c3 : addW w 483 2 b T (2 : Int).toNat = w 2 + 1 := aw_c
  have w9 := fun j (hj : j < 3) => wi (j : Nat) (by omega) (by omega)
  have wv : ∀ j : Nat, j < 3 → w (9 + j) = vIn (startW w) j := fun j hj => by
    obtain ⟨-, b2, b3, b4, -⟩ := stW_v (wi 0 (by decide) (by decide)) (wi 1 (by decide) (by decide)) (wi 2 (by decide) (by decide))
    rcases (show j = 0 ∨ j = 1 ∨ j = 2 by omega) with rfl | rfl | rfl
    · exact b2.symm
    · exact b3.symm
    · exact b4.symm
  have rg : ∀ j : Nat, j < 3 → 0 ≤ vaW w b T v (9 + j) ∧ vaW w b T v (9 + j) ≤ 9 := fun j hj => by
    rw [ei j hj]
    split
    · exact hv
    · exact wi (j : Nat) (by omega) (by omega)
  have hh : ∀ j : Nat, j < 3 → hput h2 (k + 41) (w 2).toNat v (k + 41) j = vaW w b T v (9 + j) := fun j hj => by
    rw [ei j hj]
    by_cases z : j = (w 2).toNat
    · rw [if_pos z, z]; exact hput_s
    · rw [if_neg z, pp _ _ (by omega) (by omega) (fun y => z y.2), wv j hj]
      exact r4.2 j hj
  refine ⟨⟨⟨?_, ?_, ?_⟩, ?_, ?_⟩, ?_⟩
  · exact (r1.ag c1 (fun i hi => (n0 i (by omega) hi).2) (fun i hi y y1 y2 => eo y (by omega) (by have hi : (i : Int) < w 0 := hi; omega)) (by decide)).fr (by rw [c1]; exact v0.2) (fun x y z1 z2 => pp x y (by omega) (by omega) (by omega))
  · exact (r2.ag c2 (fun i hi => (n1 i (by omega) hi).2) (fun i hi y y1 y2 => eo y (by omega) (by have hi : (i : Int) < w 1 := hi; omega)) (by decide)).fr (by rw [c2]; exact Int.le_trans v1.2 (by decide)) (fun x y z1 z2 => pp x y (by omega) (by omega) (by omega))
  · have z2 := z.fr (h1 := hput h2 (k + 41) (w 2).toNat v) (by rw [c3]; omega) (fun x y x1 x2 => (hput_k (by omega)).trans (o x y (by omega)))
    refine ⟨z2.1.trans (eA 2 (by omega)).symm, fun i hi => ?_⟩
    have hi2 : (i : Int) < addW w 483 2 b T (2 : Int).toNat := by rw [← show vaW w b T v (2 : Int).toNat = addW w 483 2 b T (2 : Int).toNat from eA 2 (by omega)]; exact hi
    have z3 := z2.2 i hi2
    unfold RNm1 at z3 ⊢
    rw [eA _ (by omega)]
    refine ⟨z3.1, fun j hj => ?_⟩
    rw [eA _ (by omega)]
    exact z3.2 j hj
  · exact RCf.st (rg 0 (by decide)) (rg 1 (by decide)) (rg 2 (by decide)) ((pp _ _ (by omega) (by omega) (by omega)).trans (r4.1.trans (stW_v (wi 0 (by decide) (by decide)) (wi 1 (by decide) (by decide)) (wi 2 (by decide) (by decide))).1)) (hh 0 (by decide)) (hh 1 (by decide)) (hh 2 (by decide))
  · exact (r5.ag v4 (eo 4 (by decide) (by decide)) (fun y y1 y2 => eo y (by omega) (by omega))).fr (fun x y z1 z2 => pp x y (by omega) (by omega) (by omega))
  · exact (r6.ag v3 (eo 3 (by decide) (by decide)) (fun y y1 y2 => eo y (by omega) (by omega))).fr (fun x y z => pp x y (by omega) (by omega) (by omega))
theorem l52f20 {k : Nat} {p v : Int} {e : Int × Int × (Nat → Int)} (hk : ShRl (KS r d) k) (k0 : 3 < k) (hF : FT h b n e) (hp0 : 0 ≤ p) : Rn (ev 52 20 [AR k, AR 2, AI p, AU] [AI v] (KS r d, h, R)) (RfQ r d R h b n k e) := by
  obtain ⟨k1, -, -, -, hi, -⟩ := hk
  obtain ⟨i1, i2⟩ := hi
  refine w_istoren f52_20 (Nat.le_of_ble_eq_true rfl) (sto_4_3 rfl) ?_
  refine w_iloadn f52_21 rfl ?_
  refine w_iconst (v := 3) f52_22 (by decide) ?_
  refine w_ic_ge (t := 36) f52_23 (by decide) (fun c1 => ?_) (fun c1 => ?_)
  · refine w_ret f52_36 rfl ?_
    first | exact ⟨_, ⟨hF.fr (fun x y z => hput_k (by omega)), fun x y z1 z2 => hput_k (by omega)⟩, rfl⟩ | exact ⟨_, ⟨hF, fun x y z1 z2 => rfl⟩, rfl⟩
  · refine w_aloadn f52_26 rfl (by omega) ?_
    refine w_getR f52_27 (by assumption) rfl (by omega) ?_
    refine w_getR f52_30 (by assumption) rfl (by omega) ?_
    refine w_iloadn f52_33 rfl ?_
    refine w_iloadn f52_34 rfl ?_
    refine w_iast f52_35 (by assumption) (by omega) ?_
    refine w_ret f52_36 rfl ?_
    first | exact ⟨_, ⟨hF.fr (fun x y z => hput_k (by omega)), fun x y z1 z2 => hput_k (by omega)⟩, rfl⟩ | exact ⟨_, ⟨hF, fun x y z1 z2 => rfl⟩, rfl⟩
theorem l52f16 {k : Nat} {p : Int} {e : Int × Int × (Nat → Int)} (hk : ShRl (KS r d) k) (k0 : 3 < k) (hF : FT h b n e) (hp0 : 0 ≤ p) : Rn (ev 52 16 [AR k, AR 2, AI p, AU] [] (KS r d, h, R)) (RfQ r d R h b n k e) := by
  have k2 := @kd_2 r d
  refine w_aloadn f52_16 rfl (by omega) ?_
  refine w_cV f52_17 (Or.inl rfl) rfl (by omega) (okd_of (by assumption)) rfl ⟨Nat.le_of_ble_eq_true rfl, rfl, Nat.le_of_ble_eq_true rfl⟩ (en34 _) (x34 hF (fun x y z => rfl)) (pv34 _ _) ?_
  exact l52f20 hk k0 hF hp0
theorem x52 {k : Nat} {p : Int} {e : Int × Int × (Nat → Int)} (hk : ShRl (KS r d) k) (k0 : 3 < k) (hF : FT h b n e) (hp : h (k + 27) 2 = p) (hp0 : 0 ≤ p) : Rn (ev 52 0 [AR k, AR 2, AU, AU] [] (KS r d, h, R)) (RfQ r d R h b n k e) := by
  have k2 := @kd_2 r d
  have z := l52f16 (R := R) hk k0 hF hp0
  obtain ⟨k1, -, -, hn, -⟩ := hk
  have n1 := hn.1
  refine w_aloadn f52_0 rfl (by omega) ?_
  refine w_getR f52_1 (by assumption) rfl (by omega) ?_
  refine w_getI f52_4 (by decide) (by assumption) (by (try simp only [hput, hcopy, Nat.reduceEqDiff, Nat.add_left_cancel_iff, Nat.add_right_cancel_iff, Nat.left_eq_add, Nat.add_eq_left, Nat.right_eq_add, Nat.add_eq_right, Nat.reduceAdd, Nat.add_zero, Nat.succ_ne_self, Nat.one_ne_zero, Nat.zero_ne_one, eq_self, and_self, and_true, true_and, and_false, false_and, if_true, if_false, reduceIte, Int.reduceToNat, Int.toNat_natCast, hp]); exact rfl) ?_
  refine w_istoren f52_7 (Nat.le_of_ble_eq_true rfl) (sto_4_2 rfl) ?_
  refine w_aloadn f52_8 rfl (by omega) ?_
  refine w_aloadn f52_9 rfl (by omega) ?_
  refine w_getR f52_10 (by assumption) rfl (by omega) ?_
  refine w_cV f52_13 (Or.inl rfl) rfl (by omega) (okd_of (by assumption)) rfl ⟨Nat.le_of_ble_eq_true rfl, rfl, Nat.le_of_ble_eq_true rfl⟩ (en32 _ _) (x32 hF (fun x y z => rfl)) (pv32 _ _) ?_
  exact z
/-- a variable is read -/
def m52 (b : Nat → Int) (n : Int) (s : PS) : PM := pb (mNew b n 483 2 s) (fun s => pb (mNum b n 0 s) (fun s => .inr (udI (udI s.1 (9 + s.1 2).toNat (s.2.2 0)) 2 (udI s.1 (9 + s.1 2).toNat (s.2.2 0) 2 + 1), s.2.1, s.2.2)))
theorem s52 {k : Nat} {s : PS} (hk : ShRl (KS r d) k) (k0 : 3 < k) (hW : WFm s.1) (h2 : s.1 2 < 3) (hR : RRl h k s.1) (q : GT h b n s.2.1) : Rn (ev 52 0 [AR k, AR 2, AU, AU] [] (KS r d, h, R)) (RdQ r d R h b n k (m52 b n s)) := by
  have k2 := @kd_2 r d
  have hk1 := hk
  obtain ⟨k1, -, -, hn, hi, -⟩ := hk
  have n1 := hn.1
  obtain ⟨i1, i2⟩ := hi
  have hv2 := hW.1.2.2.1
  have p0 : h (k + 27) 2 = s.1 2 := hR.1.1.2.2.1
  refine w_aloadn f52_0 rfl (by omega) ?_
  refine w_getR f52_1 (by assumption) rfl (by omega) ?_
  refine w_getI f52_4 (by decide) (by assumption) (by (try simp only [hput, hcopy, Nat.reduceEqDiff, Nat.add_left_cancel_iff, Nat.add_right_cancel_iff, Nat.left_eq_add, Nat.add_eq_left, Nat.right_eq_add, Nat.add_eq_right, Nat.reduceAdd, Nat.add_zero, Nat.succ_ne_self, Nat.one_ne_zero, Nat.zero_ne_one, eq_self, and_self, and_true, true_and, and_false, false_and, if_true, if_false, reduceIte, Int.reduceToNat, Int.toNat_natCast, p0]); exact rfl) ?_
  refine w_istoren f52_7 (Nat.le_of_ble_eq_true rfl) (sto_4_2 rfl) ?_
  refine w_aloadn f52_8 rfl (by omega) ?_
  refine w_aloadn f52_9 rfl (by omega) ?_
  refine w_getR f52_10 (by assumption) rfl (by omega) ?_
  refine w_qV f52_13 (Or.inl rfl) rfl (by omega) (okd_of (by assumption)) rfl ⟨Nat.le_of_ble_eq_true rfl, rfl, Nat.le_of_ble_eq_true rfl⟩ (en32 _ _) (m32 (m := 3) (Or.inr (Or.inr ⟨rfl, rfl, rfl⟩)) hn (by omega) hR.1.1.2.2 ⟨hv2.1, h2⟩ (fun i hi => (hW.2.2.1.2.2 i (by omega) hi).2) q) (fun o9 ho9 => ?_)
  rcases ho9 with ⟨s1, h1, ⟨a1, a2, a3, a4⟩, rfl⟩ | ⟨e, h1, ⟨a1, a2, a3⟩, rfl⟩
  rotate_left
  · refine w_bok (pv32 _ _) ?_
    exact (l52f16 hk1 k0 a2 hv2.1).mono (fun o z => z.to a3.m (by unfold m52; rw [a1]; rfl))
  refine w_bok (pv32 _ _) ?_
  refine w_aloadn f52_16 rfl (by omega) ?_
  refine w_qV f52_17 (Or.inl rfl) rfl (by omega) (okd_of (by assumption)) rfl ⟨Nat.le_of_ble_eq_true rfl, rfl, Nat.le_of_ble_eq_true rfl⟩ (en34 _) (m34 (j := 0) a2 (mNew_t a1).1) (fun o9 ho9 => ?_)
  rcases ho9 with ⟨s2, h2, ⟨b1, b2, b3⟩, rfl⟩ | ⟨e, h2, ⟨b1, b2, b3⟩, rfl⟩
  rotate_left
  · refine w_bok (pv34 _ _) ?_
    exact (l52f20 hk1 k0 b2 hv2.1).mono (fun o z => z.to ((a4.m (by omega) (by omega)).tr b3.m) (by unfold m52; rw [a1]; show pb (mNum b n 0 s1) _ = _; rw [b1]; rfl))
  refine w_bok (pv34 _ _) ?_
  refine w_istoren f52_20 (Nat.le_of_ble_eq_true rfl) (sto_4_3 rfl) ?_
  refine w_iloadn f52_21 rfl ?_
  refine w_iconst (v := 3) f52_22 (by decide) ?_
  refine w_ic_ge (t := 36) f52_23 (by decide) (fun c1 => by omega) (fun c1 => ?_)
  refine w_aloadn f52_26 rfl (by omega) ?_
  refine w_getR f52_27 (by assumption) rfl (by omega) ?_
  refine w_getR f52_30 (by assumption) rfl (by omega) ?_
  refine w_iloadn f52_33 rfl ?_
  refine w_iloadn f52_34 rfl ?_
  refine w_iast f52_35 (by assumption) (by omega) ?_
  refine w_ret f52_36 rfl ?_
  have m1 := mNew_t a1
  have m2 := mNum_nn b1
  have e1 : s2.1 = naW s.1 (483 + 7 * s.1 2) b s.2.1 := m2.1.trans m1.2.1
  have e2 : naW s.1 (483 + 7 * s.1 2) b s.2.1 2 = s.1 2 := naW_lo (by omega)
  have z := hR.n2 (b := b) (T := s.2.1) hW (by assumption) m2.2.1 k0 a4 a3 b3
  refine Or.inl ⟨(udI (udI s2.1 (9 + s2.1 2).toNat (s2.2.2 0)) 2 (udI s2.1 (9 + s2.1 2).toNat (s2.2.2 0) 2 + 1), s2.2.1, s2.2.2), _, ⟨by unfold m52; rw [a1]; show pb (mNum b n 0 s1) _ = _; rw [b1]; rfl, b2.fr (fun x y z => hput_k (by omega)), ?_, fun x y z1 z2 => (hput_k (by omega)).trans ((b3 x y z1).trans (a4 x y (by omega) (by omega)))⟩, rfl⟩
  show RRl _ k (udI (udI s2.1 (9 + s2.1 2).toNat (s2.2.2 0)) 2 (udI s2.1 (9 + s2.1 2).toNat (s2.2.2 0) 2 + 1))
  rw [e1, e2, show udI (naW s.1 (483 + 7 * s.1 2) b s.2.1) (9 + s.1 2).toNat (s2.2.2 0) 2 = s.1 2 from (if_neg (by omega)).trans e2]
  exact z
end A

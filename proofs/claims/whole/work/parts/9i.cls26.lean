/-! the class's reading: invariants, variables -/
section A
variable {K : List AKd} {h : Nat → Nat → Int} {R : R4} {σ : Sg} {r d : Nat} {w : Nat → Int} {b : Nat → Int} {n : Int}
theorem l54f8 {k : Nat} {x v p : Int} {v4 v5 : AV} {e : Int × Int × (Nat → Int)} (hk : ShRl (KS r d) k) (k0 : 3 < k) (hF : FT h b n e) (hp : h (k + 42) 0 = p) (hp0 : 0 ≤ p ∧ p < 12) : Rn (ev 54 8 [AR k, AR 2, AI x, AU, AU, AU] [AI v] (KS r d, h, R)) (RfQ r d R h b n k e) := by
  have k2 := @kd_2 r d
  obtain ⟨k1, -, -, -, -, hi, -⟩ := hk
  have i1 := hi.1
  refine w_istoren f54_8 (Nat.le_of_ble_eq_true rfl) (sto_6_3 rfl) ?_
  refine w_aloadn f54_9 rfl (by omega) ?_
  refine w_cV f54_10 (Or.inl rfl) rfl (by omega) (okd_of (by assumption)) rfl ⟨Nat.le_of_ble_eq_true rfl, rfl, Nat.le_of_ble_eq_true rfl⟩ (en35 _) (x35 hF (fun x y z => rfl)) (pv35 _ _) ?_
  refine w_istore f54_13 (Nat.le_of_ble_eq_true rfl) (sto_6_4 rfl) ?_
  refine w_aloadn f54_15 rfl (by omega) ?_
  refine w_cV f54_16 (Or.inl rfl) rfl (by omega) (okd_of (by assumption)) rfl ⟨Nat.le_of_ble_eq_true rfl, rfl, Nat.le_of_ble_eq_true rfl⟩ (en34 _) (x34 hF (fun x y z => rfl)) (pv34 _ _) ?_
  refine w_istore f54_19 (Nat.le_of_ble_eq_true rfl) (sto_6_5 rfl) ?_
  refine w_aloadn f54_21 rfl (by omega) ?_
  refine w_getR f54_22 (by assumption) rfl (by omega) ?_
  refine w_iloadn f54_25 rfl ?_
  refine w_iloadn f54_26 rfl ?_
  refine w_iload f54_27 rfl ?_
  refine w_iload f54_29 rfl ?_
  refine w_cV f54_31 (Or.inl rfl) rfl (by omega) (okd_of (by assumption)) rfl ⟨Nat.le_of_ble_eq_true rfl, rfl, Nat.le_of_ble_eq_true rfl⟩ (en38 _ _ _ _ _) (s38 hi (by omega) hp hp0) (pv38 _ _) ?_
  refine w_ret f54_34 rfl ?_
  exact ⟨_, ⟨hF.fr (fun x y z => addH_o x y (by omega)), fun x y z1 z2 => addH_o x y (by omega)⟩, rfl⟩
theorem l54f13 {k : Nat} {x y v p : Int} {e : Int × Int × (Nat → Int)} (hk : ShRl (KS r d) k) (k0 : 3 < k) (hF : FT h b n e) (hp : h (k + 42) 0 = p) (hp0 : 0 ≤ p ∧ p < 12) : Rn (ev 54 13 [AR k, AR 2, AI x, AI y, AU, AU] [AI v] (KS r d, h, R)) (RfQ r d R h b n k e) := by
  have k2 := @kd_2 r d
  obtain ⟨k1, -, -, -, -, hi, -⟩ := hk
  have i1 := hi.1
  refine w_istore f54_13 (Nat.le_of_ble_eq_true rfl) (sto_6_4 rfl) ?_
  refine w_aloadn f54_15 rfl (by omega) ?_
  refine w_cV f54_16 (Or.inl rfl) rfl (by omega) (okd_of (by assumption)) rfl ⟨Nat.le_of_ble_eq_true rfl, rfl, Nat.le_of_ble_eq_true rfl⟩ (en34 _) (x34 hF (fun x y z => rfl)) (pv34 _ _) ?_
  refine w_istore f54_19 (Nat.le_of_ble_eq_true rfl) (sto_6_5 rfl) ?_
  refine w_aloadn f54_21 rfl (by omega) ?_
  refine w_getR f54_22 (by assumption) rfl (by omega) ?_
  refine w_iloadn f54_25 rfl ?_
  refine w_iloadn f54_26 rfl ?_
  refine w_iload f54_27 rfl ?_
  refine w_iload f54_29 rfl ?_
  refine w_cV f54_31 (Or.inl rfl) rfl (by omega) (okd_of (by assumption)) rfl ⟨Nat.le_of_ble_eq_true rfl, rfl, Nat.le_of_ble_eq_true rfl⟩ (en38 _ _ _ _ _) (s38 hi (by omega) hp hp0) (pv38 _ _) ?_
  refine w_ret f54_34 rfl ?_
  exact ⟨_, ⟨hF.fr (fun x y z => addH_o x y (by omega)), fun x y z1 z2 => addH_o x y (by omega)⟩, rfl⟩
theorem l54f19 {k : Nat} {x y z v p : Int} {e : Int × Int × (Nat → Int)} (hk : ShRl (KS r d) k) (k0 : 3 < k) (hF : FT h b n e) (hp : h (k + 42) 0 = p) (hp0 : 0 ≤ p ∧ p < 12) : Rn (ev 54 19 [AR k, AR 2, AI x, AI y, AI z, AU] [AI v] (KS r d, h, R)) (RfQ r d R h b n k e) := by
  have k2 := @kd_2 r d
  obtain ⟨k1, -, -, -, -, hi, -⟩ := hk
  have i1 := hi.1
  refine w_istore f54_19 (Nat.le_of_ble_eq_true rfl) (sto_6_5 rfl) ?_
  refine w_aloadn f54_21 rfl (by omega) ?_
  refine w_getR f54_22 (by assumption) rfl (by omega) ?_
  refine w_iloadn f54_25 rfl ?_
  refine w_iloadn f54_26 rfl ?_
  refine w_iload f54_27 rfl ?_
  refine w_iload f54_29 rfl ?_
  refine w_cV f54_31 (Or.inl rfl) rfl (by omega) (okd_of (by assumption)) rfl ⟨Nat.le_of_ble_eq_true rfl, rfl, Nat.le_of_ble_eq_true rfl⟩ (en38 _ _ _ _ _) (s38 hi (by omega) hp hp0) (pv38 _ _) ?_
  refine w_ret f54_34 rfl ?_
  exact ⟨_, ⟨hF.fr (fun x y z => addH_o x y (by omega)), fun x y z1 z2 => addH_o x y (by omega)⟩, rfl⟩
theorem x54 {k : Nat} {x p : Int} {e : Int × Int × (Nat → Int)} (hk : ShRl (KS r d) k) (k0 : 3 < k) (hF : FT h b n e) (hp : h (k + 42) 0 = p) (hp0 : 0 ≤ p ∧ p < 12) : Rn (ev 54 0 [AR k, AR 2, AI x, AU, AU, AU] [] (KS r d, h, R)) (RfQ r d R h b n k e) := by
  have k2 := @kd_2 r d
  have z := fun v => l54f8 (v4 := AU) (v5 := AU) (R := R) (x := x) (v := v) hk k0 hF hp hp0
  obtain ⟨k1, -, -, hn, -, hi, -⟩ := hk
  have n1 := hn.1
  refine w_aloadn f54_0 rfl (by omega) ?_
  refine w_aloadn f54_1 rfl (by omega) ?_
  refine w_getR f54_2 (by assumption) rfl (by omega) ?_
  refine w_cV f54_5 (Or.inl rfl) rfl (by omega) (okd_of (by assumption)) rfl ⟨Nat.le_of_ble_eq_true rfl, rfl, Nat.le_of_ble_eq_true rfl⟩ (en33 _ _) (x33 hF (fun x y z => rfl)) (pv33 _ _) ?_
  exact z _
/-- an invariant is read -/
def m54 (b : Nat → Int) (n : Int) (s : PS) : PM := pb (mThr b n 1 1 s) (fun s => .inr (keepW s.1 (s.2.2 0) (s.2.2 1) (s.2.2 2) (s.2.2 3), s.2.1, s.2.2))
theorem RRl.o {k : Nat} {h1 : Nat → Nat → Int} (q : RRl h k w) (hW : WFb w) (k0 : 3 < k) (o : TxO h h1) : RRl h1 k w := ⟨q.1.fr hW (fun x y z1 z2 => o x y (by omega)), q.2.fr (fun x y z => o x y (by omega))⟩
theorem s54 {k : Nat} {x : Int} {s : PS} (hk : ShRl (KS r d) k) (k0 : 3 < k) (hW : WFm s.1) (h4 : s.1 4 < 12) (hR : RRl h k s.1) (q : GT h b n s.2.1) (hx : s.2.2 0 = x) : Rn (ev 54 0 [AR k, AR 2, AI x, AU, AU, AU] [] (KS r d, h, R)) (RdQ r d R h b n k (m54 b n s)) := by
  have hk1 := hk
  have k2 := @kd_2 r d
  obtain ⟨k1, -, -, hn, -, hi, -⟩ := hk
  have n1 := hn.1
  have i1 := hi.1
  have hv2 := hW.1.2.2.1
  have hv4 := hW.1.2.2.2.2
  have p0 : h (k + 42) 0 = s.1 4 := hR.1.2.2.1
  have hp : ∀ h1, TxO h h1 → h1 (k + 42) 0 = s.1 4 := fun h1 o => (o _ _ (by omega)).trans p0
  refine w_aloadn f54_0 rfl (by omega) ?_
  refine w_aloadn f54_1 rfl (by omega) ?_
  refine w_getR f54_2 (by assumption) rfl (by omega) ?_
  refine w_qV f54_5 (Or.inl rfl) rfl (by omega) (okd_of (by assumption)) rfl ⟨Nat.le_of_ble_eq_true rfl, rfl, Nat.le_of_ble_eq_true rfl⟩ (en33 _ _) (m33 (j := 1) hn (by omega) hR.1.1.2.2 ⟨hv2.1, Int.le_trans hv2.2 (by decide)⟩ q) (fun o9 ho9 => ?_)
  rcases ho9 with ⟨s1, h1, ⟨a1, a2, a3⟩, rfl⟩ | ⟨e, h1, ⟨a1, a2, a3⟩, rfl⟩
  rotate_left
  · refine w_bok (pv33 _ _) ?_
    exact (l54f8 (v4 := AU) (v5 := AU) hk1 k0 a2 (hp _ a3) ⟨hv4.1, h4⟩).mono (fun o z => z.to a3.m (by unfold m54; rw [mThr_u, a1]; rfl))
  refine w_bok (pv33 _ _) ?_
  refine w_istoren f54_8 (Nat.le_of_ble_eq_true rfl) (sto_6_3 rfl) ?_
  refine w_aloadn f54_9 rfl (by omega) ?_
  refine w_qV f54_10 (Or.inl rfl) rfl (by omega) (okd_of (by assumption)) rfl ⟨Nat.le_of_ble_eq_true rfl, rfl, Nat.le_of_ble_eq_true rfl⟩ (en35 _) (m35 (j := 2) a2) (fun o9 ho9 => ?_)
  rcases ho9 with ⟨s2, h2, ⟨b1, b2, b3⟩, rfl⟩ | ⟨e, h2, ⟨b1, b2, b3⟩, rfl⟩
  rotate_left
  · refine w_bok (pv35 _ _) ?_
    exact (l54f13 hk1 k0 b2 (hp _ (a3.tr b3)) ⟨hv4.1, h4⟩).mono (fun o z => z.to (a3.tr b3).m (by unfold m54; rw [mThr_u, a1]; show pb (pb (mOp b n 2 1 s1) _) _ = _; rw [b1]; rfl))
  refine w_bok (pv35 _ _) ?_
  refine w_istore f54_13 (Nat.le_of_ble_eq_true rfl) (sto_6_4 rfl) ?_
  refine w_aloadn f54_15 rfl (by omega) ?_
  refine w_qV f54_16 (Or.inl rfl) rfl (by omega) (okd_of (by assumption)) rfl ⟨Nat.le_of_ble_eq_true rfl, rfl, Nat.le_of_ble_eq_true rfl⟩ (en34 _) (m34 (j := 3) b2 (mOp_t b1).1) (fun o9 ho9 => ?_)
  rcases ho9 with ⟨s3, h3, ⟨c1, c2, c3⟩, rfl⟩ | ⟨e, h3, ⟨c1, c2, c3⟩, rfl⟩
  rotate_left
  · refine w_bok (pv34 _ _) ?_
    exact (l54f19 hk1 k0 c2 (hp _ ((a3.tr b3).tr c3)) ⟨hv4.1, h4⟩).mono (fun o z => z.to ((a3.tr b3).tr c3).m (by unfold m54; rw [mThr_u, a1]; show pb (pb (mOp b n 2 1 s1) _) _ = _; rw [b1]; show pb (mNum b n 3 s2) _ = _; rw [c1]; rfl))
  refine w_bok (pv34 _ _) ?_
  refine w_istore f54_19 (Nat.le_of_ble_eq_true rfl) (sto_6_5 rfl) ?_
  refine w_aloadn f54_21 rfl (by omega) ?_
  refine w_getR f54_22 (by assumption) rfl (by omega) ?_
  refine w_iloadn f54_25 rfl ?_
  refine w_iloadn f54_26 rfl ?_
  refine w_iload f54_27 rfl ?_
  refine w_iload f54_29 rfl ?_
  refine w_cV f54_31 (Or.inl rfl) rfl (by omega) (okd_of (by assumption)) rfl ⟨Nat.le_of_ble_eq_true rfl, rfl, Nat.le_of_ble_eq_true rfl⟩ (en38 _ _ _ _ _) (s38 hi (by omega) (hp _ ((a3.tr b3).tr c3)) ⟨hv4.1, h4⟩) (pv38 _ _) ?_
  refine w_ret f54_34 rfl ?_
  have tt := (a3.tr b3).tr c3
  have m1 := mKn_nn (c := 2) hv2.1 a1
  have m2 := mOp_t b1
  have m3 := mNum_nn c1
  have em : mThr b n 1 1 s = .inr s3 := by rw [mThr_u, a1]; show pb (mOp b n 2 1 s1) _ = _; rw [b1]; exact c1
  have e1 : s3.1 = s.1 := m3.1.trans (m2.2.1.trans m1.1)
  have g0 : s3.2.2 0 = x := by rw [m3.2.2 0 (by decide), m2.2.2]; exact (m1.2.2 0 (by decide)).trans hx
  have g1 : s3.2.2 1 = s1.2.2 1 := by rw [m3.2.2 1 (by decide), m2.2.2]; rfl
  have g2 : s3.2.2 2 = s2.2.2 2 := m3.2.2 2 (by decide)
  have hR3 := hR.o hW.1 k0 tt
  refine Or.inl ⟨(keepW s3.1 (s3.2.2 0) (s3.2.2 1) (s3.2.2 2) (s3.2.2 3), s3.2.1, s3.2.2), _, ⟨by unfold m54; rw [em]; rfl, c2.fr (fun x y z => addH_o x y (by omega)), ?_, fun x y z1 z2 => (addH_o x y (by omega)).trans (tt x y z1)⟩, rfl⟩
  show RRl _ k (keepW s3.1 (s3.2.2 0) (s3.2.2 1) (s3.2.2 2) (s3.2.2 3))
  rw [e1, g0, g1, g2]
  have hI := hR3.1.2.2.add (x1 := x) (x2 := s1.2.2 1) (x3 := s2.2.2 2) (x4 := s3.2.2 3) ⟨hv4.1, h4⟩
  have eo : ∀ g : Nat, g ≠ 4 → (g < 309 ∨ 357 ≤ g) → keepW s.1 x (s1.2.2 1) (s2.2.2 2) (s3.2.2 3) g = s.1 g := fun g q1 q2 => by
    unfold keepW udI
    rw [if_neg q1, if_neg (by omega), if_neg (by omega), if_neg (by omega), if_neg (by omega)]
  obtain ⟨⟨v0, v1, v2, v3, v4⟩, -, ⟨n0, nn1, nn2⟩, -⟩ := id hW
  obtain ⟨⟨⟨r1, r2, r3⟩, r4, r5⟩, r6⟩ := hR3
  refine ⟨⟨⟨?_, ?_, ?_⟩, ?_, hI⟩, ?_⟩
  · exact (r1.ag (eo 0 (by decide) (by decide)) (fun i hi => (n0 i (by omega) hi).2) (fun i hi y y1 y2 => eo y (by omega) (by omega)) (by decide)).ot (by rw [show keepW s.1 x (s1.2.2 1) (s2.2.2 2) (s3.2.2 3) (0 : Int).toNat = s.1 0 from eo 0 (by decide) (by decide)]; exact v0.2) addH_o (by omega)
  · exact (r2.ag (eo 1 (by decide) (by decide)) (fun i hi => (nn1 i (by omega) hi).2) (fun i hi y y1 y2 => eo y (by omega) (by omega)) (by decide)).ot (by rw [show keepW s.1 x (s1.2.2 1) (s2.2.2 2) (s3.2.2 3) (1 : Int).toNat = s.1 1 from eo 1 (by decide) (by decide)]; exact Int.le_trans v1.2 (by decide)) addH_o (by omega)
  · exact (r3.ag (eo 2 (by decide) (by decide)) (fun i hi => (nn2 i (by omega) hi).2) (fun i hi y y1 y2 => eo y (by omega) (by omega)) (by decide)).ot (by rw [show keepW s.1 x (s1.2.2 1) (s2.2.2 2) (s3.2.2 3) (2 : Int).toNat = s.1 2 from eo 2 (by decide) (by decide)]; exact Int.le_trans v2.2 (by decide)) addH_o (by omega)
  · unfold startW
    rw [eo 9 (by decide) (by decide), eo 10 (by decide) (by decide), eo 11 (by decide) (by decide)]
    exact r4.ot addH_o (by omega)
  · exact (r6.ag v3 (eo 3 (by decide) (by decide)) (fun y y1 y2 => eo y (by omega) (by omega))).fr (fun x y z => addH_o x y (by omega))
end A

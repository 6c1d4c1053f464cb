/-! the class's reading: transitions, II -/
section A
variable {K : List AKd} {h : Nat → Nat → Int} {R : R4} {σ : Sg} {r d : Nat} {w : Nat → Int} {b : Nat → Int} {n : Int}
theorem mOp_r {j : Int} {s s1 : PS} (hm : mOp b n j 1 s = .inr s1) : 0 ≤ s1.2.2 j.toNat ∧ s1.2.2 j.toNat ≤ 5 := by
  have e := (mOp_t hm).2.2
  have g : opx b 1 s.2.1 ≠ -1 := fun z => by
    unfold mOp mWrd at hm
    rw [if_pos z, if_pos rfl] at hm
    cases hm
  have o := opW_r (b := b) (T := s.2.1)
  have e2 : opx b 1 s.2.1 = opW b s.2.1 := if_neg (by decide)
  rw [e]
  unfold udI
  rw [if_pos rfl]
  rw [e2] at g ⊢
  exact o.resolve_left g
/-- what stands before "when" -/
def W3 (h : Nat → Nat → Int) (k : Nat) (u : Nat → Int) (t : Nat) : Prop := RGo h k u ∧ RTm h k u t ∧ B3 h k u t ∧ tr u t 3 = -1 ∧ tr u t 6 = -1
theorem l53w {h0 : Nat → Nat → Int} {k t : Nat} {s : PS} (hk : ShRl (KS r d) k) (k0 : 3 < k) (hW : WFm s.1) (ht : t < 24) (q : GT h b n s.2.1) (hD : W3 h k s.1 t) (hF : FmO k h0 h) : Rn (ev 53 60 [AR k, AR 2, AI t] [] (KS r d, h, R)) (RdQ r d R h0 b n k (m53w b n s)) := by
  have hk1 := hk
  have k2 := @kd_2 r d
  obtain ⟨k1, n1, n2, n3, -, -, a0, a1, a2, a3, a4, a5, a6, a7, a8⟩ := hk
  have n31 := n3.1
  obtain ⟨dG, dT, ⟨dB0, dB1, dB2⟩, d3, d6⟩ := hD
  have hv2 := hW.1.2.2.1
  have h3t := dT.2.1
  have q0 : GT (hput h (k + 51) (t : Int).toNat (-1)) b n s.2.1 := q.fr (fun x y z => hput_k (by omega))
  unfold m53w
  by_cases zd : isW b s.2.1 tx_when = true
  · rw [if_pos zd]
    have dR : ∀ h1, TxO (hput h (k + 51) (t : Int).toNat (-1)) h1 → RGo h1 k s.1 := fun h1 o => dG.fr hW.1 (fun x y z1 z2 => (o x y (by omega)).trans (hput_k (by omega)))
    have o5 : ∀ h1, TxO (hput h (k + 51) (t : Int).toNat (-1)) h1 → h1 k 5 = t := fun h1 o => (o k 5 (by omega)).trans ((hput_k (by omega)).trans dT.1)
    refine w_aloadn f53_60 rfl (by omega) ?_
    refine w_getR f53_61 (by assumption) rfl (by omega) ?_
    refine w_iloadn f53_64 rfl ?_
    refine w_iconst (v := -1) f53_65 (by decide) ?_
    refine w_iast f53_66 (by assumption) (by omega) ?_
    refine w_aloadn f53_67 rfl (by omega) ?_
    refine w_ldc f53_68 ?_
    refine w_qV f53_70 (Or.inl rfl) rfl (by omega) (okd_of (by assumption)) rfl ⟨Nat.le_of_ble_eq_true rfl, rfl, Nat.le_of_ble_eq_true rfl⟩ (en27 _ _) (m27t (t := 16) (s := s) q0 (by decide) rfl zd) (fun o9 ho9 => ?_)
    obtain ⟨h1, ⟨p1, p2⟩, rfl⟩ := ho9
    refine w_bok (pv27 _ _) ?_
    refine w_if_eq (t := 110) f53_73 (by decide) (fun c1 => by omega) (fun c1 => ?_)
    refine w_aloadn f53_76 rfl (by omega) ?_
    refine w_getR f53_77 (by assumption) rfl (by omega) ?_
    refine w_iloadn f53_80 rfl ?_
    refine w_aloadn f53_81 rfl (by omega) ?_
    refine w_aloadn f53_82 rfl (by omega) ?_
    refine w_getR f53_83 (by assumption) rfl (by omega) ?_
    refine w_qV f53_86 (Or.inl rfl) rfl (by omega) (okd_of (by assumption)) rfl ⟨Nat.le_of_ble_eq_true rfl, rfl, Nat.le_of_ble_eq_true rfl⟩ (en33 _ _) (m33 (j := 3) (s := adv b n s) n3 (by omega) (dR _ p2).1.2.2 ⟨hv2.1, Int.le_trans hv2.2 (by decide)⟩ p1) (fun o9 ho9 => ?_)
    rcases ho9 with ⟨s1, h2, ⟨b1, b2, b3⟩, rfl⟩ | ⟨e, h2, ⟨b1, b2, b3⟩, rfl⟩
    rotate_left
    · refine w_bok (pv33 _ _) ?_
      exact (l53f89 hk1 k0 b2 (o5 _ (p2.tr b3)) ⟨by omega, by omega⟩).mono (fun o z => z.to (fun x y z1 z2 => (p2.tr b3 x y z1).trans ((hput_k (by omega)).trans (hF x y z1 z2))) (by rw [mThr_u, b1]; rfl))
    have q1 : GT (hput h2 (k + 50) (t : Int).toNat (s1.2.2 3)) b n s1.2.1 := b2.fr (fun x y z => hput_k (by omega))
    refine w_bok (pv33 _ _) ?_
    refine w_iast f53_89 (by assumption) (by omega) ?_
    refine w_aloadn f53_90 rfl (by omega) ?_
    refine w_getR f53_91 (by assumption) rfl (by omega) ?_
    refine w_iloadn f53_94 rfl ?_
    refine w_aloadn f53_95 rfl (by omega) ?_
    refine w_qV f53_96 (Or.inl rfl) rfl (by omega) (okd_of (by assumption)) rfl ⟨Nat.le_of_ble_eq_true rfl, rfl, Nat.le_of_ble_eq_true rfl⟩ (en35 _) (m35 (j := 4) q1) (fun o9 ho9 => ?_)
    rcases ho9 with ⟨s2, h3, ⟨c1, c2, c3⟩, rfl⟩ | ⟨e, h3, ⟨c1, c2, c3⟩, rfl⟩
    rotate_left
    · refine w_bok (pv35 _ _) ?_
      exact (l53f99 hk1 k0 c2 ((c3 _ _ (by omega)).trans ((hput_k (by omega)).trans (o5 _ (p2.tr b3)))) ⟨by omega, by omega⟩).mono (fun o z => z.to (fun x y z1 z2 => (c3 x y z1).trans ((hput_k (by omega)).trans ((p2.tr b3 x y z1).trans ((hput_k (by omega)).trans (hF x y z1 z2))))) (by rw [mThr_u, b1]; show pb (pb (pb (mOp b n 4 1 s1) _) _) _ = _; rw [c1]; rfl))
    have q2 : GT (hput h3 (k + 51) (t : Int).toNat (s2.2.2 4)) b n s2.2.1 := c2.fr (fun x y z => hput_k (by omega))
    refine w_bok (pv35 _ _) ?_
    refine w_iast f53_99 (by assumption) (by omega) ?_
    refine w_aloadn f53_100 rfl (by omega) ?_
    refine w_getR f53_101 (by assumption) rfl (by omega) ?_
    refine w_iloadn f53_104 rfl ?_
    refine w_aloadn f53_105 rfl (by omega) ?_
    refine w_qV f53_106 (Or.inl rfl) rfl (by omega) (okd_of (by assumption)) rfl ⟨Nat.le_of_ble_eq_true rfl, rfl, Nat.le_of_ble_eq_true rfl⟩ (en34 _) (m34 (j := 5) q2 (mOp_t c1).1) (fun o9 ho9 => ?_)
    rcases ho9 with ⟨s3, h4, ⟨e1, e2, e3⟩, rfl⟩ | ⟨e, h4, ⟨e1, e2, e3⟩, rfl⟩
    rotate_left
    · refine w_bok (pv34 _ _) ?_
      exact (l53f109 hk1 k0 e2 ((e3 _ _ (by omega)).trans ((hput_k (by omega)).trans ((c3 _ _ (by omega)).trans ((hput_k (by omega)).trans (o5 _ (p2.tr b3)))))) ⟨by omega, by omega⟩).mono (fun o z => z.to (fun x y z1 z2 => (e3 x y z1).trans ((hput_k (by omega)).trans ((c3 x y z1).trans ((hput_k (by omega)).trans ((p2.tr b3 x y z1).trans ((hput_k (by omega)).trans (hF x y z1 z2))))))) (by rw [mThr_u, b1]; show pb (pb (pb (mOp b n 4 1 s1) _) _) _ = _; rw [c1]; show pb (pb (mNum b n 5 s2) _) _ = _; rw [e1]; rfl))
    refine w_bok (pv34 _ _) ?_
    refine w_iast f53_109 (by assumption) (by omega) ?_
    have p23 := p2.tr b3
    have m1 := mKn_nn (c := 2) (s := adv b n s) hv2.1 b1
    have m2 := mOp_t c1
    have m4 := mOp_r c1
    have m3 := mNum_nn e1
    have em : mThr b n 3 1 (adv b n s) = .inr s3 := by rw [mThr_u, b1]; show pb (mOp b n 4 1 s1) _ = _; rw [c1]; exact e1
    have e9 : s3.1 = s.1 := m3.1.trans (m2.2.1.trans m1.1)
    have g6 : s3.2.2 3 = s1.2.2 3 := by rw [m3.2.2 3 (by decide), m2.2.2]; rfl
    have g7 : s3.2.2 4 = s2.2.2 4 := m3.2.2 4 (by decide)
    have n6 : 0 ≤ s1.2.2 3 := m1.2.1.1
    obtain ⟨⟨t6, t7, t8⟩, to⟩ := gd_t (u := s.1) (t := t) (x := s1.2.2 3) (y := s2.2.2 4) (z := s3.2.2 5) dT.2.1 (by omega)
    have fr : ∀ x y, ¬ (x = 2 ∧ 2 ≤ y ∧ y ≤ 7) → (x < k + 50 ∨ k + 53 ≤ x ∨ y ≠ t) → hput h4 (k + 52) (t : Int).toNat (s3.2.2 5) x y = h x y := fun x y z1 z3 => by
      refine (if_neg (by omega)).trans ((e3 x y z1).trans ((if_neg (by omega)).trans ((c3 x y z1).trans ((if_neg (by omega)).trans ((p23 x y z1).trans (if_neg (by omega)))))))
    rw [em]
    show Rn _ (RdQ r d R h0 b n k (m53d b n (gdW s3.1 (s3.2.2 3) (s3.2.2 4) (s3.2.2 5), s3.2.1, s3.2.2)))
    rw [e9, g6, g7]
    have hWn : WFm (gdW s.1 (s1.2.2 3) (s2.2.2 4) (s3.2.2 5)) := gdW_W hW (by omega) m1.2.1 m4 m3.2.1
    refine l53d (s := (gdW s.1 (s1.2.2 3) (s2.2.2 4) (s3.2.2 5), s3.2.1, s3.2.2)) hk1 k0 hWn ht (e2.fr (fun x y z => hput_k (by omega))) ⟨(dG.ag hW (fun y y1 y2 => to y (by omega))).fr hWn.1 (fun x y z1 z2 => fr x y (by omega) (by omega)), (dT.ag (to 3 (by omega)) (fun g z1 z2 => to g (by omega))).fr (fr _ _ (by omega) (by omega)) (fun x y z1 z2 z3 => fr x y (by omega) (by omega)), ⟨?_, ?_, ?_⟩, ⟨?_, fun _ => ⟨?_, ?_⟩⟩, ?_⟩ (fun x y z1 z2 => (fr x y z1 (by omega)).trans (hF x y z1 z2))
    · exact (fr _ _ (by omega) (by omega)).trans (dB0.trans (to _ (by omega)).symm)
    · exact (fr _ _ (by omega) (by omega)).trans (dB1.trans (to _ (by omega)).symm)
    · exact (fr _ _ (by omega) (by omega)).trans (dB2.trans (to _ (by omega)).symm)
    · show _ = if tr (gdW s.1 (s1.2.2 3) (s2.2.2 4) (s3.2.2 5)) t 3 = -1 then -1 else tr (gdW s.1 (s1.2.2 3) (s2.2.2 4) (s3.2.2 5)) t 4
      rw [t6, t7, if_neg (by omega)]
      exact (hput_k (by omega)).trans ((e3 _ _ (by omega)).trans hput_s)
    · show _ = tr (gdW s.1 (s1.2.2 3) (s2.2.2 4) (s3.2.2 5)) t 3
      rw [t6]
      exact (hput_k (by omega)).trans ((e3 _ _ (by omega)).trans ((hput_k (by omega)).trans ((c3 _ _ (by omega)).trans hput_s)))
    · show _ = tr (gdW s.1 (s1.2.2 3) (s2.2.2 4) (s3.2.2 5)) t 5
      rw [t8]
      exact hput_s
    · exact (to _ (by omega)).trans d6
  · rw [if_neg zd]
    refine w_aloadn f53_60 rfl (by omega) ?_
    refine w_getR f53_61 (by assumption) rfl (by omega) ?_
    refine w_iloadn f53_64 rfl ?_
    refine w_iconst (v := -1) f53_65 (by decide) ?_
    refine w_iast f53_66 (by assumption) (by omega) ?_
    refine w_aloadn f53_67 rfl (by omega) ?_
    refine w_ldc f53_68 ?_
    refine w_cV f53_70 (Or.inl rfl) rfl (by omega) (okd_of (by assumption)) rfl ⟨Nat.le_of_ble_eq_true rfl, rfl, Nat.le_of_ble_eq_true rfl⟩ (en27 _ _) (m27n (t := 16) q0.1 (by decide) rfl (fun z => zd z.2)) (pv27 _ _) ?_
    refine w_if_eq (t := 110) f53_73 (by decide) (fun c1 => ?_) (fun c1 => by omega)
    have fr : ∀ x y, (x ≠ k + 51 ∨ y ≠ t) → hput h (k + 51) (t : Int).toNat (-1) x y = h x y := fun x y z2 => if_neg (by omega)
    exact l53d hk1 k0 hW ht q0 ⟨dG.fr hW.1 (fun x y z1 z2 => fr x y (by omega)), dT.fr (fr _ _ (by omega)) (fun x y z1 z2 z3 => fr x y (by omega)), ⟨(fr _ _ (by omega)).trans dB0, (fr _ _ (by omega)).trans dB1, (fr _ _ (by omega)).trans dB2⟩, ⟨by rw [if_pos d3]; exact hput_s, fun z => absurd d3 z⟩, d6⟩ (fun x y z1 z2 => (fr x y (by omega)).trans (hF x y z1 z2))
theorem s53 {k : Nat} {s : PS} (hk : ShRl (KS r d) k) (k0 : 3 < k) (hW : WFm s.1) (hw3 : s.1 3 < 24) (hR : RRl h k s.1) (q : GT h b n s.2.1) : Rn (ev 53 0 [AR k, AR 2, AU] [] (KS r d, h, R)) (RdQ r d R h b n k (m53 b n s)) := by
  have hk1 := hk
  have k2 := @kd_2 r d
  obtain ⟨k1, n1, n2, n3, -, -, a0, a1, a2, a3, a4, a5, a6, a7, a8⟩ := hk
  have n11 := n1.1
  have n21 := n2.1
  have n31 := n3.1
  obtain ⟨v0, v1, v2, v3, v4⟩ := hW.1
  obtain ⟨t, et⟩ : ∃ t : Nat, s.1 3 = t := ⟨(s.1 3).toNat, by omega⟩
  have p5 : h k 5 = t := hR.2.1.trans et
  have ett : ((t : Int)).toNat = t := by omega
  refine w_aloadn f53_0 rfl (by omega) ?_
  refine w_getI f53_1 (by decide) (by assumption) (by (try simp only [hput, hcopy, Nat.reduceEqDiff, Nat.add_left_cancel_iff, Nat.add_right_cancel_iff, Nat.left_eq_add, Nat.add_eq_left, Nat.right_eq_add, Nat.add_eq_right, Nat.reduceAdd, Nat.add_zero, Nat.succ_ne_self, Nat.one_ne_zero, Nat.zero_ne_one, eq_self, and_self, and_true, true_and, and_false, false_and, if_true, if_false, reduceIte, Int.reduceToNat, Int.toNat_natCast, p5]); exact rfl) ?_
  refine w_istoren f53_4 (Nat.le_of_ble_eq_true rfl) (sto_3_2 rfl) ?_
  refine w_iloadn f53_5 rfl ?_
  refine w_bipush (v := 24) f53_6 (by decide) ?_
  refine w_ic_lt (t := 12) f53_8 (by decide) (fun c1 => ?_) (fun c1 => by omega)
  refine w_aloadn f53_12 rfl (by omega) ?_
  refine w_getR f53_13 (by assumption) rfl (by omega) ?_
  refine w_iloadn f53_16 rfl ?_
  refine w_aloadn f53_17 rfl (by omega) ?_
  refine w_aloadn f53_18 rfl (by omega) ?_
  refine w_getR f53_19 (by assumption) rfl (by omega) ?_
  refine w_qV f53_22 (Or.inl rfl) rfl (by omega) (okd_of (by assumption)) rfl ⟨Nat.le_of_ble_eq_true rfl, rfl, Nat.le_of_ble_eq_true rfl⟩ (en33 _ _) (m33 (j := 0) n1 (by omega) hR.1.1.1 ⟨v0.1, v0.2⟩ q) (fun o9 ho9 => ?_)
  rcases ho9 with ⟨s1, h1, ⟨b1, b2, b3⟩, rfl⟩ | ⟨e, h1, ⟨b1, b2, b3⟩, rfl⟩
  rotate_left
  · refine w_bok (pv33 _ _) ?_
    exact (l53f25 hk1 k0 b2 ((b3 _ _ (by omega)).trans p5) ⟨by omega, by omega⟩).mono (fun o z => z.to b3.m (by unfold m53; rw [b1]; rfl))
  have m1 := mKn_nn (c := 0) v0.1 b1
  have w1 : s1.1 = s.1 := m1.1
  have q1 : GT (hput h1 (k + 47) (t : Int).toNat (s1.2.2 0)) b n s1.2.1 := b2.fr (fun x y z => hput_k (by omega))
  have R1 : RGo (hput h1 (k + 47) (t : Int).toNat (s1.2.2 0)) k s1.1 := by rw [w1]; exact hR.1.fr hW.1 (fun x y z1 z2 => (hput_k (by omega)).trans (b3 x y (by omega)))
  refine w_bok (pv33 _ _) ?_
  refine w_iast f53_25 (by assumption) (by omega) ?_
  refine w_aloadn f53_26 rfl (by omega) ?_
  refine w_getR f53_27 (by assumption) rfl (by omega) ?_
  refine w_iloadn f53_30 rfl ?_
  refine w_aloadn f53_31 rfl (by omega) ?_
  refine w_aloadn f53_32 rfl (by omega) ?_
  refine w_getR f53_33 (by assumption) rfl (by omega) ?_
  refine w_qV f53_36 (Or.inl rfl) rfl (by omega) (okd_of (by assumption)) rfl ⟨Nat.le_of_ble_eq_true rfl, rfl, Nat.le_of_ble_eq_true rfl⟩ (en33 _ _) (m33 (j := 1) n2 (by omega) R1.1.2.1 ⟨by rw [w1]; exact v1.1, by rw [w1]; exact Int.le_trans v1.2 (by decide)⟩ q1) (fun o9 ho9 => ?_)
  rcases ho9 with ⟨s2, h2, ⟨c1, c2, c3⟩, rfl⟩ | ⟨e, h2, ⟨c1, c2, c3⟩, rfl⟩
  rotate_left
  · refine w_bok (pv33 _ _) ?_
    exact (l53f39 hk1 k0 c2 ((c3 _ _ (by omega)).trans ((hput_k (by omega)).trans ((b3 _ _ (by omega)).trans p5))) ⟨by omega, by omega⟩).mono (fun o z => z.to (fun x y z1 z2 => (c3 x y z1).trans ((hput_k (by omega)).trans (b3 x y z1))) (by unfold m53; rw [b1]; show pb (mKn b n 1 427 1 s1) _ = _; rw [c1]; rfl))
  have m2 := mKn_nn (c := 1) (by rw [w1]; exact v1.1) c1
  have w2 : s2.1 = s.1 := m2.1.trans w1
  have q2 : GT (hput h2 (k + 48) (t : Int).toNat (s2.2.2 1)) b n s2.2.1 := c2.fr (fun x y z => hput_k (by omega))
  refine w_bok (pv33 _ _) ?_
  refine w_iast f53_39 (by assumption) (by omega) ?_
  refine w_aloadn f53_40 rfl (by omega) ?_
  refine w_ldc f53_41 ?_
  refine w_qV f53_43 (Or.inl rfl) rfl (by omega) (okd_of (by assumption)) rfl ⟨Nat.le_of_ble_eq_true rfl, rfl, Nat.le_of_ble_eq_true rfl⟩ (en28 _ _) (m28 (t := 15) (l := tx_goto) (s := s2) q2 (by decide) rfl) (fun o9 ho9 => ?_)
  rcases ho9 with ⟨s3, h3, ⟨e1, e2, e3⟩, rfl⟩ | ⟨e, h3, ⟨e1, e2, e3⟩, rfl⟩
  rotate_left
  · refine w_bok (pv28 _ _) ?_
    exact (l53f46 hk1 k0 e2 ((e3 _ _ (by omega)).trans ((hput_k (by omega)).trans ((c3 _ _ (by omega)).trans ((hput_k (by omega)).trans ((b3 _ _ (by omega)).trans p5))))) ⟨by omega, by omega⟩).mono (fun o z => z.to (fun x y z1 z2 => (e3 x y z1).trans ((hput_k (by omega)).trans ((c3 x y z1).trans ((hput_k (by omega)).trans (b3 x y z1))))) (by unfold m53; rw [b1]; show pb (mKn b n 1 427 1 s1) _ = _; rw [c1]; show pb (mWb b n _ s2) _ = _; rw [e1]; rfl))
  have m3 : s3.1 = s2.1 ∧ s3.2.2 = s2.2.2 := by
    unfold mWb at e1
    split at e1
    · cases e1; exact ⟨rfl, rfl⟩
    · cases e1
  have w3 : s3.1 = s.1 := m3.1.trans w2
  have R3 : RGo h3 k s3.1 := by rw [w3]; exact hR.1.fr hW.1 (fun x y z1 z2 => (e3 x y (by omega)).trans ((hput_k (by omega)).trans ((c3 x y (by omega)).trans ((hput_k (by omega)).trans (b3 x y (by omega))))))
  refine w_bok (pv28 _ _) ?_
  refine w_aloadn f53_46 rfl (by omega) ?_
  refine w_getR f53_47 (by assumption) rfl (by omega) ?_
  refine w_iloadn f53_50 rfl ?_
  refine w_aloadn f53_51 rfl (by omega) ?_
  refine w_aloadn f53_52 rfl (by omega) ?_
  refine w_getR f53_53 (by assumption) rfl (by omega) ?_
  refine w_qV f53_56 (Or.inl rfl) rfl (by omega) (okd_of (by assumption)) rfl ⟨Nat.le_of_ble_eq_true rfl, rfl, Nat.le_of_ble_eq_true rfl⟩ (en33 _ _) (m33 (j := 2) n1 (by omega) R3.1.1 ⟨by rw [w3]; exact v0.1, by rw [w3]; exact v0.2⟩ e2) (fun o9 ho9 => ?_)
  rcases ho9 with ⟨s4, h4, ⟨f1, f2, f3⟩, rfl⟩ | ⟨e, h4, ⟨f1, f2, f3⟩, rfl⟩
  rotate_left
  · refine w_bok (pv33 _ _) ?_
    exact (l53f59 hk1 k0 f2 ((f3 _ _ (by omega)).trans ((e3 _ _ (by omega)).trans ((hput_k (by omega)).trans ((c3 _ _ (by omega)).trans ((hput_k (by omega)).trans ((b3 _ _ (by omega)).trans p5)))))) ⟨by omega, by omega⟩).mono (fun o z => z.to (fun x y z1 z2 => (f3 x y z1).trans ((e3 x y z1).trans ((hput_k (by omega)).trans ((c3 x y z1).trans ((hput_k (by omega)).trans (b3 x y z1)))))) (by unfold m53; rw [b1]; show pb (mKn b n 1 427 1 s1) _ = _; rw [c1]; show pb (mWb b n _ s2) _ = _; rw [e1]; show pb (mKn b n 2 357 0 s3) _ = _; rw [f1]; rfl))
  refine w_bok (pv33 _ _) ?_
  refine w_iast f53_59 (by assumption) (by omega) ?_
  have m4 := mKn_nn (c := 0) (by rw [w3]; exact v0.1) f1
  have w4 : s4.1 = s.1 := m4.1.trans w3
  have em : m53 b n s = m53w b n (ldW s4.1 (s4.2.2 0) (s4.2.2 1) (s4.2.2 2), s4.2.1, s4.2.2) := by unfold m53; rw [b1]; show pb (mKn b n 1 427 1 s1) _ = _; rw [c1]; show pb (mWb b n _ s2) _ = _; rw [e1]; show pb (mKn b n 2 357 0 s3) _ = _; rw [f1]; rfl
  have g0 : s4.2.2 0 = s1.2.2 0 := by rw [m4.2.2 0 (by decide), m3.2, m2.2.2 0 (by decide)]
  have g1 : s4.2.2 1 = s2.2.2 1 := by rw [m4.2.2 1 (by decide), m3.2]
  have r0 : 0 ≤ s1.2.2 0 ∧ s1.2.2 0 < s.1 0 := m1.2.1
  have r1 : 0 ≤ s2.2.2 1 ∧ s2.2.2 1 < s1.1 1 := m2.2.1
  have r2 : 0 ≤ s4.2.2 2 ∧ s4.2.2 2 < s3.1 0 := m4.2.1
  rw [w1] at r1
  rw [w3] at r2
  rw [em, w4, g0, g1]
  obtain ⟨hWn, l3, -⟩ := ldW_W hW hw3 r0 r1 r2
  obtain ⟨l3, ⟨t0, t1, t2⟩, ⟨t3, t6⟩, to⟩ := ld_t (u := s.1) (x := s1.2.2 0) (y := s2.2.2 1) (z := s4.2.2 2) et (by omega)
  have fr : ∀ x y, ¬ (x = 2 ∧ 2 ≤ y ∧ y ≤ 7) → (x < k + 47 ∨ k + 50 ≤ x ∨ y ≠ t) → hput h4 (k + 49) (t : Int).toNat (s4.2.2 2) x y = h x y := fun x y z1 z3 => by
    refine (if_neg (by omega)).trans ((f3 x y z1).trans ((e3 x y z1).trans ((if_neg (by omega)).trans ((c3 x y z1).trans ((if_neg (by omega)).trans (b3 x y z1))))))
  refine l53w (s := (ldW s.1 (s1.2.2 0) (s2.2.2 1) (s4.2.2 2), s4.2.1, s4.2.2)) hk1 k0 hWn (by omega) (f2.fr (fun x y z => hput_k (by omega))) ⟨(hR.1.ag hW (fun y y1 y2 => to y y1 (by omega))).fr hWn.1 (fun x y z1 z2 => fr x y (by omega) (by omega)), ⟨(fr _ _ (by omega) (by omega)).trans p5, l3, fun y hy => ((hR.2.2 y (by omega)).ag (fun g z1 z2 => to g (by omega) (by omega))).fr (fun x z1 z2 => fr x y (by omega) (by omega))⟩, ⟨?_, ?_, ?_⟩, t3, t6⟩ (fun x y z1 z2 => fr x y z1 (by omega))
  · show _ = tr (ldW s.1 (s1.2.2 0) (s2.2.2 1) (s4.2.2 2)) t 0
    rw [t0]
    exact (hput_k (by omega)).trans ((f3 _ _ (by omega)).trans ((e3 _ _ (by omega)).trans ((hput_k (by omega)).trans ((c3 _ _ (by omega)).trans hput_s))))
  · show _ = tr (ldW s.1 (s1.2.2 0) (s2.2.2 1) (s4.2.2 2)) t 1
    rw [t1]
    exact (hput_k (by omega)).trans ((f3 _ _ (by omega)).trans ((e3 _ _ (by omega)).trans hput_s))
  · show _ = tr (ldW s.1 (s1.2.2 0) (s2.2.2 1) (s4.2.2 2)) t 2
    rw [t2]
    exact hput_s
end A

/-! the class's reading: transitions -/
section A
variable {K : List AKd} {h : Nat → Nat → Int} {R : R4} {σ : Sg} {r d : Nat} {w : Nat → Int} {b : Nat → Int} {n : Int}
theorem acs_t {u : Nat → Int} {t x y z : Int} (h3 : u 3 = t + 1) (ht : 0 ≤ t) : (tr (acsW u x y z) t 6 = x ∧ tr (acsW u x y z) t 7 = y ∧ tr (acsW u x y z) t 8 = z) ∧ ∀ g : Nat, ((g : Int) < 93 + 9 * t + 6 ∨ 93 + 9 * t + 8 < g) → acsW u x y z g = u g := by
  have e : u 3 - 1 = t := by omega
  unfold acsW
  rw [e]
  refine ⟨⟨?_, ?_, if_pos rfl⟩, fun g q2 => ?_⟩
  · unfold tr udI
    rw [if_neg (by omega), if_neg (by omega), if_pos rfl]
  · unfold tr udI
    rw [if_neg (by omega), if_pos rfl]
  · unfold udI
    rw [if_neg (by omega), if_neg (by omega), if_neg (by omega)]
theorem gd_t {u : Nat → Int} {t x y z : Int} (h3 : u 3 = t + 1) (ht : 0 ≤ t) : (tr (gdW u x y z) t 3 = x ∧ tr (gdW u x y z) t 4 = y ∧ tr (gdW u x y z) t 5 = z) ∧ ∀ g : Nat, ((g : Int) < 93 + 9 * t + 3 ∨ 93 + 9 * t + 5 < g) → gdW u x y z g = u g := by
  have e : u 3 - 1 = t := by omega
  unfold gdW
  rw [e]
  refine ⟨⟨?_, ?_, if_pos rfl⟩, fun g q2 => ?_⟩
  · unfold tr udI
    rw [if_neg (by omega), if_neg (by omega), if_pos rfl]
  · unfold tr udI
    rw [if_neg (by omega), if_pos rfl]
  · unfold udI
    rw [if_neg (by omega), if_neg (by omega), if_neg (by omega)]
theorem ld_t {u : Nat → Int} {t x y z : Int} (h3 : u 3 = t) (ht : 0 ≤ t) : ldW u x y z 3 = t + 1 ∧ (tr (ldW u x y z) t 0 = x ∧ tr (ldW u x y z) t 1 = y ∧ tr (ldW u x y z) t 2 = z) ∧ (tr (ldW u x y z) t 3 = -1 ∧ tr (ldW u x y z) t 6 = -1) ∧ ∀ g : Nat, g ≠ 3 → ((g : Int) < 93 + 9 * t ∨ 93 + 9 * t + 8 < g) → ldW u x y z g = u g := by
  unfold ldW
  rw [h3]
  refine ⟨if_pos rfl, ⟨?_, ?_, ?_⟩, ⟨?_, ?_⟩, fun g q1 q2 => ?_⟩
  · unfold tr udI
    rw [if_neg (by omega), if_neg (by omega), if_neg (by omega), if_neg (by omega), if_neg (by omega), if_pos rfl]
  · unfold tr udI
    rw [if_neg (by omega), if_neg (by omega), if_neg (by omega), if_neg (by omega), if_pos rfl]
  · unfold tr udI
    rw [if_neg (by omega), if_neg (by omega), if_neg (by omega), if_pos rfl]
  · unfold tr udI
    rw [if_neg (by omega), if_neg (by omega), if_pos rfl]
  · unfold tr udI
    rw [if_neg (by omega), if_pos rfl]
  · unfold udI
    rw [if_neg q1, if_neg (by omega), if_neg (by omega), if_neg (by omega), if_neg (by omega), if_neg (by omega)]
theorem RTr1.ag {k t : Nat} {u : Nat → Int} (q : RTr1 h k w t) (e : ∀ g : Nat, 93 + 9 * t ≤ g → g ≤ 93 + 9 * t + 8 → u g = w g) : RTr1 h k u t := by
  unfold RTr1 tr at q ⊢
  rw [e _ (by omega) (by omega), e _ (by omega) (by omega), e _ (by omega) (by omega), e _ (by omega) (by omega), e _ (by omega) (by omega), e _ (by omega) (by omega), e _ (by omega) (by omega), e _ (by omega) (by omega), e _ (by omega) (by omega)]
  exact q
/-- the transitions before t, and the names and the guard of t itself -/
def B3 (h : Nat → Nat → Int) (k : Nat) (u : Nat → Int) (t : Nat) : Prop := h (k + 47) t = tr u t 0 ∧ h (k + 48) t = tr u t 1 ∧ h (k + 49) t = tr u t 2
def G3 (h : Nat → Nat → Int) (k : Nat) (u : Nat → Int) (t : Nat) : Prop := h (k + 51) t = (if tr u t 3 = -1 then -1 else tr u t 4) ∧ (tr u t 3 ≠ -1 → h (k + 50) t = tr u t 3 ∧ h (k + 52) t = tr u t 5)
def RTm (h : Nat → Nat → Int) (k : Nat) (u : Nat → Int) (t : Nat) : Prop := h k 5 = t ∧ u 3 = (t : Int) + 1 ∧ ∀ y : Nat, y < t → RTr1 h k u y
theorem RTm.fr {k t : Nat} {u : Nat → Int} {h1 : Nat → Nat → Int} (q : RTm h k u t) (e0 : h1 k 5 = h k 5) (e : ∀ x y, k + 47 ≤ x → x < k + 56 → y ≠ t → h1 x y = h x y) : RTm h1 k u t :=
  ⟨e0.trans q.1, q.2.1, fun y hy => (q.2.2 y hy).fr (fun x z1 z2 => e x y z1 z2 (by omega))⟩
theorem RTm.ag {k t : Nat} {u v : Nat → Int} (q : RTm h k u t) (e3 : v 3 = u 3) (e : ∀ g : Nat, 93 ≤ g → g < 93 + 9 * t → v g = u g) : RTm h k v t :=
  ⟨q.1, e3.trans q.2.1, fun y hy => (q.2.2 y hy).ag (fun g z1 z2 => e g (by omega) (by omega))⟩
/-- the last one is done -/
theorem RTm.to {k t : Nat} {u : Nat → Int} {h1 : Nat → Nat → Int} (q : RTm h k u t) (e0 : h1 k 5 = (t : Int) + 1) (e : ∀ x y, k + 47 ≤ x → x < k + 56 → y ≠ t → h1 x y = h x y) (b3 : B3 h1 k u t) (g3 : G3 h1 k u t) (a3 : h1 (k + 54) t = (if tr u t 6 = -1 then -1 else tr u t 7) ∧ (tr u t 6 ≠ -1 → h1 (k + 53) t = tr u t 6 ∧ h1 (k + 55) t = tr u t 8)) : RTr h1 k u := by
  refine ⟨e0.trans q.2.1.symm, fun y hy => ?_⟩
  have h3 := q.2.1
  by_cases z : y = t
  · subst z
    exact ⟨b3, g3, a3⟩
  · exact (q.2.2 y (by omega)).fr (fun x z1 z2 => e x y z1 z2 z)
def m53d (b : Nat → Int) (n : Int) (s : PS) : PM := if isW b s.2.1 tx_do = true then pb (mThr b n 6 0 (adv b n s)) (fun s => .inr (acsW s.1 (s.2.2 6) (s.2.2 7) (s.2.2 8), s.2.1, s.2.2)) else .inr s
def m53w (b : Nat → Int) (n : Int) (s : PS) : PM := pb (if isW b s.2.1 tx_when = true then pb (mThr b n 3 1 (adv b n s)) (fun s => .inr (gdW s.1 (s.2.2 3) (s.2.2 4) (s.2.2 5), s.2.1, s.2.2)) else .inr s) (fun s => m53d b n s)
def m53 (b : Nat → Int) (n : Int) (s : PS) : PM := pb (mKn b n 0 357 0 s) (fun s => pb (mKn b n 1 427 1 s) (fun s => pb (mWb b n (isW b s.2.1 tx_goto) s) (fun s => pb (mKn b n 2 357 0 s) (fun s => m53w b n (ldW s.1 (s.2.2 0) (s.2.2 1) (s.2.2 2), s.2.1, s.2.2)))))
/-- what stands before "do" -/
def D3 (h : Nat → Nat → Int) (k : Nat) (u : Nat → Int) (t : Nat) : Prop := RGo h k u ∧ RTm h k u t ∧ B3 h k u t ∧ G3 h k u t ∧ tr u t 6 = -1
theorem l53d {h0 : Nat → Nat → Int} {k t : Nat} {s : PS} (hk : ShRl (KS r d) k) (k0 : 3 < k) (hW : WFm s.1) (ht : t < 24) (q : GT h b n s.2.1) (hD : D3 h k s.1 t) (hF : FmO k h0 h) : Rn (ev 53 110 [AR k, AR 2, AI t] [] (KS r d, h, R)) (RdQ r d R h0 b n k (m53d b n s)) := by
  have hk1 := hk
  have k2 := @kd_2 r d
  obtain ⟨k1, n1, n2, n3, -, -, a0, a1, a2, a3, a4, a5, a6, a7, a8⟩ := hk
  have n31 := n3.1
  obtain ⟨dG, dT, ⟨dB0, dB1, dB2⟩, ⟨dG0, dG1⟩, d6⟩ := hD
  have hv2 := hW.1.2.2.1
  have et : ((t : Int)).toNat = t := by omega
  have q0 : GT (hput h (k + 54) (t : Int).toNat (-1)) b n s.2.1 := q.fr (fun x y z => hput_k (by omega))
  unfold m53d
  by_cases zd : isW b s.2.1 tx_do = true
  · rw [if_pos zd]
    have dR : ∀ h1, TxO (hput h (k + 54) (t : Int).toNat (-1)) h1 → RGo h1 k s.1 := fun h1 o => dG.fr hW.1 (fun x y z1 z2 => (o x y (by omega)).trans (hput_k (by omega)))
    have o5 : ∀ h1, TxO (hput h (k + 54) (t : Int).toNat (-1)) h1 → h1 k 5 = t := fun h1 o => (o k 5 (by omega)).trans ((hput_k (by omega)).trans dT.1)
    refine w_aloadn f53_110 rfl (by omega) ?_
    refine w_getR f53_111 (by assumption) rfl (by omega) ?_
    refine w_iloadn f53_114 rfl ?_
    refine w_iconst (v := -1) f53_115 (by decide) ?_
    refine w_iast f53_116 (by assumption) (by omega) ?_
    refine w_aloadn f53_117 rfl (by omega) ?_
    refine w_ldc f53_118 ?_
    refine w_qV f53_120 (Or.inl rfl) rfl (by omega) (okd_of (by assumption)) rfl ⟨Nat.le_of_ble_eq_true rfl, rfl, Nat.le_of_ble_eq_true rfl⟩ (en27 _ _) (m27t (t := 17) (s := s) q0 (by decide) rfl zd) (fun o9 ho9 => ?_)
    obtain ⟨h1, ⟨p1, p2⟩, rfl⟩ := ho9
    refine w_bok (pv27 _ _) ?_
    refine w_if_eq (t := 160) f53_123 (by decide) (fun c1 => by omega) (fun c1 => ?_)
    refine w_aloadn f53_126 rfl (by omega) ?_
    refine w_getR f53_127 (by assumption) rfl (by omega) ?_
    refine w_iloadn f53_130 rfl ?_
    refine w_aloadn f53_131 rfl (by omega) ?_
    refine w_aloadn f53_132 rfl (by omega) ?_
    refine w_getR f53_133 (by assumption) rfl (by omega) ?_
    refine w_qV f53_136 (Or.inl rfl) rfl (by omega) (okd_of (by assumption)) rfl ⟨Nat.le_of_ble_eq_true rfl, rfl, Nat.le_of_ble_eq_true rfl⟩ (en33 _ _) (m33 (j := 6) (s := adv b n s) n3 (by omega) (dR _ p2).1.2.2 ⟨hv2.1, Int.le_trans hv2.2 (by decide)⟩ p1) (fun o9 ho9 => ?_)
    rcases ho9 with ⟨s1, h2, ⟨b1, b2, b3⟩, rfl⟩ | ⟨e, h2, ⟨b1, b2, b3⟩, rfl⟩
    rotate_left
    · refine w_bok (pv33 _ _) ?_
      exact (l53f139 hk1 k0 b2 (o5 _ (p2.tr b3)) ⟨by omega, by omega⟩).mono (fun o z => z.to (fun x y z1 z2 => (p2.tr b3 x y z1).trans ((hput_k (by omega)).trans (hF x y z1 z2))) (by rw [mThr_u, b1]; rfl))
    have q1 : GT (hput h2 (k + 53) (t : Int).toNat (s1.2.2 6)) b n s1.2.1 := b2.fr (fun x y z => hput_k (by omega))
    refine w_bok (pv33 _ _) ?_
    refine w_iast f53_139 (by assumption) (by omega) ?_
    refine w_aloadn f53_140 rfl (by omega) ?_
    refine w_getR f53_141 (by assumption) rfl (by omega) ?_
    refine w_iloadn f53_144 rfl ?_
    refine w_aloadn f53_145 rfl (by omega) ?_
    refine w_qV f53_146 (Or.inl rfl) rfl (by omega) (okd_of (by assumption)) rfl ⟨Nat.le_of_ble_eq_true rfl, rfl, Nat.le_of_ble_eq_true rfl⟩ (en36 _) (m36 (j := 7) q1) (fun o9 ho9 => ?_)
    rcases ho9 with ⟨s2, h3, ⟨c1, c2, c3⟩, rfl⟩ | ⟨e, h3, ⟨c1, c2, c3⟩, rfl⟩
    rotate_left
    · refine w_bok (pv36 _ _) ?_
      exact (l53f149 hk1 k0 c2 ((c3 _ _ (by omega)).trans ((hput_k (by omega)).trans (o5 _ (p2.tr b3)))) ⟨by omega, by omega⟩).mono (fun o z => z.to (fun x y z1 z2 => (c3 x y z1).trans ((hput_k (by omega)).trans ((p2.tr b3 x y z1).trans ((hput_k (by omega)).trans (hF x y z1 z2))))) (by rw [mThr_u, b1]; show pb (pb (mOp b n 7 0 s1) _) _ = _; rw [c1]; rfl))
    have q2 : GT (hput h3 (k + 54) (t : Int).toNat (s2.2.2 7)) b n s2.2.1 := c2.fr (fun x y z => hput_k (by omega))
    refine w_bok (pv36 _ _) ?_
    refine w_iast f53_149 (by assumption) (by omega) ?_
    refine w_aloadn f53_150 rfl (by omega) ?_
    refine w_getR f53_151 (by assumption) rfl (by omega) ?_
    refine w_iloadn f53_154 rfl ?_
    refine w_aloadn f53_155 rfl (by omega) ?_
    refine w_qV f53_156 (Or.inl rfl) rfl (by omega) (okd_of (by assumption)) rfl ⟨Nat.le_of_ble_eq_true rfl, rfl, Nat.le_of_ble_eq_true rfl⟩ (en34 _) (m34 (j := 8) q2 (mOp_t c1).1) (fun o9 ho9 => ?_)
    rcases ho9 with ⟨s3, h4, ⟨e1, e2, e3⟩, rfl⟩ | ⟨e, h4, ⟨e1, e2, e3⟩, rfl⟩
    rotate_left
    · refine w_bok (pv34 _ _) ?_
      exact (l53f159 hk1 k0 e2 ((e3 _ _ (by omega)).trans ((hput_k (by omega)).trans ((c3 _ _ (by omega)).trans ((hput_k (by omega)).trans (o5 _ (p2.tr b3)))))) ⟨by omega, by omega⟩).mono (fun o z => z.to (fun x y z1 z2 => (e3 x y z1).trans ((hput_k (by omega)).trans ((c3 x y z1).trans ((hput_k (by omega)).trans ((p2.tr b3 x y z1).trans ((hput_k (by omega)).trans (hF x y z1 z2))))))) (by rw [mThr_u, b1]; show pb (pb (mOp b n 7 0 s1) _) _ = _; rw [c1]; show pb (mNum b n 8 s2) _ = _; rw [e1]; rfl))
    refine w_bok (pv34 _ _) ?_
    refine w_iast f53_159 (by assumption) (by omega) ?_
    refine w_aloadn f53_160 rfl (by omega) ?_
    refine w_dup f53_161 rfl ?_
    refine w_getI f53_162 (by decide) (by assumption) (by exact (hput_k (by omega)).trans ((e3 _ _ (by omega)).trans ((hput_k (by omega)).trans ((c3 _ _ (by omega)).trans ((hput_k (by omega)).trans (o5 _ (p2.tr b3))))))) ?_
    refine w_iconst (v := 1) f53_165 (by decide) ?_
    refine w_iaddn f53_166 (by omega) ?_
    refine w_putI f53_167 (by assumption) ?_
    refine w_ret f53_170 rfl ?_
    have p23 := p2.tr b3
    have m1 := mKn_nn (c := 2) (s := adv b n s) hv2.1 b1
    have m2 := mOp_t c1
    have m3 := mNum_nn e1
    have em : mThr b n 6 0 (adv b n s) = .inr s3 := by rw [mThr_u, b1]; show pb (mOp b n 7 0 s1) _ = _; rw [c1]; exact e1
    have e9 : s3.1 = s.1 := m3.1.trans (m2.2.1.trans m1.1)
    have g6 : s3.2.2 6 = s1.2.2 6 := by rw [m3.2.2 6 (by decide), m2.2.2]; rfl
    have g7 : s3.2.2 7 = s2.2.2 7 := m3.2.2 7 (by decide)
    have n6 : 0 ≤ s1.2.2 6 := m1.2.1.1
    obtain ⟨⟨t6, t7, t8⟩, to⟩ := acs_t (u := s.1) (t := t) (x := s1.2.2 6) (y := s2.2.2 7) (z := s3.2.2 8) dT.2.1 (by omega)
    have h3t := dT.2.1
    have fr : ∀ x y, ¬ (x = 2 ∧ 2 ≤ y ∧ y ≤ 7) → (x ≠ k ∨ y ≠ 5) → (x < k + 53 ∨ k + 56 ≤ x ∨ y ≠ t) → hput (hput h4 (k + 55) (t : Int).toNat (s3.2.2 8)) k 5 ((t : Int) + 1) x y = h x y := fun x y z1 z2 z3 => by
      refine (if_neg (by omega)).trans ((if_neg (by omega)).trans ((e3 x y z1).trans ((if_neg (by omega)).trans ((c3 x y z1).trans ((if_neg (by omega)).trans ((p23 x y z1).trans (if_neg (by omega))))))))
    refine Or.inl ⟨(acsW s3.1 (s3.2.2 6) (s3.2.2 7) (s3.2.2 8), s3.2.1, s3.2.2), _, ⟨by rw [em]; rfl, e2.fr (fun x y z => (hput_k (by omega)).trans (hput_k (by omega))), ?_, fun x y z1 z2 => (fr x y z1 (by omega) (by omega)).trans (hF x y z1 z2)⟩, rfl⟩
    show RRl _ k (acsW s3.1 (s3.2.2 6) (s3.2.2 7) (s3.2.2 8))
    rw [e9, g6, g7]
    refine ⟨(dG.ag hW (fun y y1 y2 => to y (by omega))).fr ?_ (fun x y z1 z2 => fr x y (by omega) (by omega) (by omega)), (dT.ag (to 3 (by omega)) (fun g z1 z2 => to g (by omega))).to hput_s (fun x y z1 z2 z3 => fr x y (by omega) (by omega) (by omega)) ⟨?_, ?_, ?_⟩ ⟨?_, ?_⟩ ⟨?_, fun _ => ⟨?_, ?_⟩⟩⟩
    · have vb := hW.1
      unfold WFb at vb ⊢
      rw [to 0 (by omega), to 1 (by omega), to 2 (by omega), to 3 (by omega), to 4 (by omega)]
      exact vb
    · exact (fr _ _ (by omega) (by omega) (by omega)).trans (dB0.trans (to _ (by omega)).symm)
    · exact (fr _ _ (by omega) (by omega) (by omega)).trans (dB1.trans (to _ (by omega)).symm)
    · exact (fr _ _ (by omega) (by omega) (by omega)).trans (dB2.trans (to _ (by omega)).symm)
    · rw [show tr (acsW s.1 (s1.2.2 6) (s2.2.2 7) (s3.2.2 8)) t 3 = tr s.1 t 3 from to _ (by omega), show tr (acsW s.1 (s1.2.2 6) (s2.2.2 7) (s3.2.2 8)) t 4 = tr s.1 t 4 from to _ (by omega)]
      exact (fr _ _ (by omega) (by omega) (by omega)).trans dG0
    · rw [show tr (acsW s.1 (s1.2.2 6) (s2.2.2 7) (s3.2.2 8)) t 3 = tr s.1 t 3 from to _ (by omega), show tr (acsW s.1 (s1.2.2 6) (s2.2.2 7) (s3.2.2 8)) t 5 = tr s.1 t 5 from to _ (by omega)]
      exact fun z => ⟨(fr _ _ (by omega) (by omega) (by omega)).trans (dG1 z).1, (fr _ _ (by omega) (by omega) (by omega)).trans (dG1 z).2⟩
    · rw [t6, t7, if_neg (by omega)]
      exact (hput_k (by omega)).trans ((hput_k (by omega)).trans ((e3 _ _ (by omega)).trans hput_s))
    · rw [t6]
      exact (hput_k (by omega)).trans ((hput_k (by omega)).trans ((e3 _ _ (by omega)).trans ((hput_k (by omega)).trans ((c3 _ _ (by omega)).trans hput_s))))
    · rw [t8]
      exact (hput_k (by omega)).trans hput_s
  · rw [if_neg zd]
    refine w_aloadn f53_110 rfl (by omega) ?_
    refine w_getR f53_111 (by assumption) rfl (by omega) ?_
    refine w_iloadn f53_114 rfl ?_
    refine w_iconst (v := -1) f53_115 (by decide) ?_
    refine w_iast f53_116 (by assumption) (by omega) ?_
    refine w_aloadn f53_117 rfl (by omega) ?_
    refine w_ldc f53_118 ?_
    refine w_cV f53_120 (Or.inl rfl) rfl (by omega) (okd_of (by assumption)) rfl ⟨Nat.le_of_ble_eq_true rfl, rfl, Nat.le_of_ble_eq_true rfl⟩ (en27 _ _) (m27n (t := 17) q0.1 (by decide) rfl (fun z => zd z.2)) (pv27 _ _) ?_
    refine w_if_eq (t := 160) f53_123 (by decide) (fun c1 => ?_) (fun c1 => by omega)
    refine w_aloadn f53_160 rfl (by omega) ?_
    refine w_dup f53_161 rfl ?_
    refine w_getI f53_162 (by decide) (by assumption) (by exact (hput_k (by omega)).trans dT.1) ?_
    refine w_iconst (v := 1) f53_165 (by decide) ?_
    refine w_iaddn f53_166 (by omega) ?_
    refine w_putI f53_167 (by assumption) ?_
    refine w_ret f53_170 rfl ?_
    have fr : ∀ x y, (x ≠ k ∨ y ≠ 5) → (x ≠ k + 54 ∨ y ≠ t) → hput (hput h (k + 54) (t : Int).toNat (-1)) k 5 ((t : Int) + 1) x y = h x y := fun x y z2 z3 => (if_neg (by omega)).trans (if_neg (by omega))
    refine Or.inl ⟨s, _, ⟨rfl, q.fr (fun x y z => (hput_k (by omega)).trans (hput_k (by omega))), ⟨dG.fr hW.1 (fun x y z1 z2 => fr x y (by omega) (by omega)), dT.to hput_s (fun x y z1 z2 z3 => fr x y (by omega) (by omega)) ⟨(fr _ _ (by omega) (by omega)).trans dB0, (fr _ _ (by omega) (by omega)).trans dB1, (fr _ _ (by omega) (by omega)).trans dB2⟩ ⟨(fr _ _ (by omega) (by omega)).trans dG0, fun z => ⟨(fr _ _ (by omega) (by omega)).trans (dG1 z).1, (fr _ _ (by omega) (by omega)).trans (dG1 z).2⟩⟩ ⟨?_, fun z => absurd d6 z⟩⟩, fun x y z1 z2 => (fr x y (by omega) (by omega)).trans (hF x y z1 z2)⟩, rfl⟩
    rw [if_pos d6]
    exact (hput_k (by omega)).trans hput_s
end A

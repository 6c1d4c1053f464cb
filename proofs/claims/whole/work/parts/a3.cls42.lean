/-! the class: changes -/
section A
variable {K : List AKd} {h : Nat → Nat → Int} {R : R4} {σ : Sg} {r d : Nat} {w u : Nat → Int} {b : Nat → Int} {n N M : Int}
theorem EX.ag (hd : WFd w N) (q : EX w) (g : ∀ y : Nat, y < 5 ∨ (18 ≤ y ∧ y ≤ 58) ∨ (59 ≤ y ∧ y ≤ 92) ∨ 93 ≤ y → u y = w y) : EX u := by
  refine ⟨fun k hk => ?_, fun t t1 t2 => ?_, fun s s1 s2 => ?_⟩
  · rw [g 18 (by omega)] at hk
    rw [g (19 + 2 * k) (by omega), g (20 + 2 * k) (by omega), q.1 k hk]
    have t0 := (hd.2.2.2.2.2 k hk).2
    unfold tr
    rw [g _ (by omega)]
  · rw [g 3 (by omega)] at t1
    rw [g _ (by omega)]
    exact q.2.1 t t1 t2
  · rw [g 0 (by omega)] at s1
    rw [g _ (by omega)]
    exact q.2.2 s s1 s2
theorem EX_set {i v : Int} (hd : WFd w N) (q : EX w) (hi : 0 ≤ i ∧ i < 3) : EX (udI w (6 + i).toNat v) := q.ag hd (fun y hy => if_neg (by omega))
theorem SR_set {i v : Int} (hi : 0 ≤ i ∧ i < 3) : SameR w (udI w (6 + i).toNat v) := fun y hy => if_neg (by omega)
theorem EX_g2 (hd : WFd w N) (q : EX w) : EX (g2sW w) := by
  have e : ∀ y : Nat, ¬ (5 ≤ y ∧ y ≤ 8) → y ≠ 18 → g2sW w y = w y := fun y y1 y2 => g2sW_o ⟨y1, y2⟩
  refine ⟨fun k hk => absurd (show (k : Int) < 0 from hk) (by omega), fun t t1 t2 => ?_, fun s s1 s2 => ?_⟩
  · rw [e 3 (by omega) (by omega)] at t1
    rw [e _ (by omega) (by omega)]
    exact q.2.1 t t1 t2
  · rw [e 0 (by omega) (by omega)] at s1
    rw [e _ (by omega) (by omega)]
    exact q.2.2 s s1 s2
theorem SR_g2 : SameR w (g2sW w) := fun y hy => g2sW_o ⟨by omega, by omega⟩
theorem EX_clr (hd : WFd w N) (q : EX w) (hn : 1 ≤ w 0) : EX (clrW w) := by
  have h5 := hd.2.1.1
  have d5 := hd.2.2.2.2.1
  have e : ∀ y : Nat, ¬ (12 ≤ y ∧ y ≤ 18) → ¬ (59 ≤ y ∧ y ≤ 92) → clrW w y = w y := fun y y1 y2 => clrW_o h5 ⟨y1, y2⟩
  have z18 : clrW w 18 = 0 := by
    unfold clrW udI zr
    rw [if_neg (by omega), if_pos rfl]
  refine ⟨fun k hk => ?_, fun t t1 t2 => ?_, fun s s1 s2 => ?_⟩
  · rw [z18] at hk
    omega
  · unfold clrW udI zr
    rw [if_neg (by omega), if_neg (by omega), if_pos (by omega)]
  · rw [e 0 (by omega) (by omega)] at s1
    have v0 := hd.1.1.1
    unfold clrW udI zr
    by_cases z : 59 + s = (59 + w 5).toNat
    · exfalso
      have := hn
      omega
    · rw [if_neg z, if_neg (by omega), if_pos (by omega)]
theorem SR_clr (hd : WFd w N) : SameR w (clrW w) := fun y hy => clrW_o hd.2.1.1 ⟨by omega, by omega⟩
theorem EX_keep {s v p c : Int} (hd : WFd w N) (q : EX w) (h4 : w 4 < 12) : EX (keepW w s v p c) := by
  have v4 := hd.1.1.2.2.2.2
  have e : ∀ y : Nat, y ≠ 4 → (y < 309 ∨ 357 ≤ y) → keepW w s v p c y = w y := fun y y1 y2 => by
    unfold keepW udI
    rw [if_neg y1, if_neg (by omega), if_neg (by omega), if_neg (by omega), if_neg (by omega)]
  have v3 := hd.1.1.2.2.2.1
  refine ⟨fun k hk => ?_, fun t t1 t2 => ?_, fun s s1 s2 => ?_⟩
  · rw [e 18 (by omega) (by omega)] at hk
    have t0 := (hd.2.2.2.2.2 k hk).2
    have d18 := hd.2.2.1
    rw [e (19 + 2 * k) (by omega) (by omega), e (20 + 2 * k) (by omega) (by omega), q.1 k hk]
    unfold tr
    rw [e _ (by omega) (by omega)]
  · rw [e 3 (by omega) (by omega)] at t1
    rw [e _ (by omega) (by omega)]
    exact q.2.1 t t1 t2
  · rw [e 0 (by omega) (by omega)] at s1
    rw [e _ (by omega) (by omega)]
    exact q.2.2 s s1 s2
theorem SR_keep {s v p c : Int} (hd : WFd w N) (h4 : w 4 < 12) : SameR w (keepW w s v p c) := fun y hy => by
  have v4 := hd.1.1.2.2.2.2
  unfold keepW udI
  rw [if_neg (by omega), if_neg (by omega), if_neg (by omega), if_neg (by omega), if_neg (by omega)]
theorem EX_fir {e : Int} (hd : WFd w N) (q : EX w) : EX (firW w e) ∧ SameR w (firW w e) := by
  obtain ⟨hW, hc, d1, d2, d3, d4⟩ := hd
  have hh := hereW_r hc
  have hv := vdt_v (w := w) (c := hereW w) (e := e) hW.1.2.2.2.1.1
  have hr := vdt_r (e := e) hW.ft hh
  have v3 := hW.1.2.2.2.1
  unfold firW
  by_cases z : (vdt w (hereW w) e).1 = 0
  · rw [if_pos z]
    obtain ⟨t0, t1, -, t2⟩ := hv.2 z
    have hs := vdt_st z
    have ht := hW.2.2.2.1 _ t0 t1
    generalize (vdt w (hereW w) e).2.2 = nx at hr hs ⊢
    generalize (vdt w (hereW w) e).2.1 = t at t0 t1 t2 hs ht ⊢
    have h24 : 0 ≤ t ∧ t < 24 := ⟨t0, by omega⟩
    have e18 : ac0W w nx t 18 = w 18 := ac0W_o hr h24 (by omega)
    have h8' : 0 ≤ ac0W w nx t 18 ∧ ac0W w nx t 18 ≤ 20 := by rw [e18]; exact d1
    have o : ∀ y : Nat, (y < 18 ∨ 59 ≤ y) → trcW (ac0W w nx t) e t y = ac0W w nx t y := fun y hy => trcW_o h8' hy
    have o2 : ∀ y : Nat, y < 5 ∨ (9 ≤ y ∧ y ≤ 11) ∨ 93 ≤ y → trcW (ac0W w nx t) e t y = w y := fun y hy => (o y (by omega)).trans (ac0W_o hr h24 (by omega))
    have hn := trcN_r h8'
    refine ⟨⟨fun k hk => ?_, fun s s1 s2 => ?_, fun s s1 s2 => ?_⟩, fun y hy => o2 y (by omega)⟩
    · rw [trcW_18 h8'] at hk
      cases k with
      | zero =>
        have y := trcW_e (w := ac0W w nx t) (e := e) (t := t)
        rw [show 19 + 2 * 0 = 19 from rfl, show 20 + 2 * 0 = 20 from rfl, y.1, y.2]
        unfold tr
        rw [o2 _ (by omega)]
        exact t2.symm
      | succ k =>
        have y := trcW_k (e := e) (t := t) (k := k) h8' (by omega)
        have t9 := (d4 k (by omega)).2
        rw [y.1, y.2, ac0W_o hr h24 (by omega), ac0W_o hr h24 (by omega), q.1 k (by omega)]
        unfold tr
        rw [o2 _ (by omega)]
    · rw [o2 3 (by omega)] at s1
      rw [o _ (by omega), ac0W_t hr h24 s2, if_neg (by omega)]
      exact q.2.1 s s1 s2
    · rw [o2 0 (by omega)] at s1
      rw [o _ (by omega), ac0W_s hr h24 s2, if_neg (by rw [hs]; have := ht.2.2.1; omega)]
      exact q.2.2 s s1 s2
  · rw [if_neg z]
    have oR : ∀ y : Nat, ¬ (12 ≤ y ∧ y ≤ 17) → rejW w (vdt w (hereW w) e).1 y = w y := fun y hy => by
      have := hv.1
      unfold rejW udI
      rw [if_neg (by omega), if_neg (by omega)]
    exact ⟨q.ag (N := N) ⟨hW, hc, d1, d2, d3, d4⟩ (fun y hy => oR y (by omega)), fun y hy => oR y (by omega)⟩
def ChC (r d : Nat) (R : R4) (h : Nat → Nat → Int) (w f : Nat → Int) (v : Int) : Out → Prop := fun o => ∃ h1, ClQ h w f h1 ∧ o = (.inl (AI v), (KS r d, h1, R))
theorem s122t {i : Int} (hM : RelM r d N h w) (hp : 0 ≤ h 34 1 ∧ h 34 1 < 8) (hcn : 0 ≤ h 34 2 ∧ h 34 2 ≤ 8) (hi : 0 ≤ i ∧ i < w 1) : Rn (ev 122 0 [AR 1, AI i] [] (KS r d, h, R)) (ChC r d R h w (firW w i) (vdt w (hereW w) i).1) := by
  have r0 := hM.rd
  obtain ⟨⟨hr, h40⟩, ⟨hd, hx, hz⟩, hn, qr, qs, qS⟩ := hM
  have hl := shRl (r := r) (d := d) r0.1
  obtain ⟨l1, n1, n2, n3, l5, l6, a0, a1, a2, a3, a4, a5, a6, a7, a8⟩ := id hl
  have n11 := n1.1
  have n21 := n2.1
  have n31 := n3.1
  obtain ⟨l51, l52⟩ := id l5
  have k1 := @kd_1 r d
  have k8 := @kd_8 r d
  have k9 := @kd_9 r d
  have k10 := @kd_10 r d
  have k11 := @kd_11 r d
  have k12 := @kd_12 r d
  have k16 := @kd_16 r d
  have k17 := @kd_17 r d
  have k18 := @kd_18 r d
  have k19 := @kd_19 r d
  have k140 := @kd_140 r d
  have k143 := @kd_143 r d
  have e0 : h (r + 1) 2 = w 0 := qr.1.1.1
  have e1 : h (r + 14) 2 = w 1 := qr.1.2.1.1
  have e2 : h (r + 27) 2 = w 2 := qr.1.2.2.1
  have e3 : h r 5 = w 3 := qr.2.2.1
  have e4 : h 11 0 = w 4 := qs.2.1.1
  obtain ⟨v0, v1, v2, v3, v4⟩ := hd.1.1
  obtain ⟨hd1, hd2⟩ := hW_d hd.2.1
  refine w_iloadn f122_0 rfl ?_
  refine w_aloadn f122_1 rfl (by omega) ?_
  refine w_getR f122_2 (by assumption) rfl (by omega) ?_
  refine w_getR f122_5 (by assumption) rfl (by omega) ?_
  refine w_getI f122_8 (by decide) (by assumption) (by (try simp only [hput, hcopy, Nat.reduceEqDiff, Nat.add_left_cancel_iff, Nat.add_right_cancel_iff, Nat.left_eq_add, Nat.add_eq_left, Nat.right_eq_add, Nat.add_eq_right, Nat.reduceAdd, Nat.add_zero, Nat.succ_ne_self, Nat.one_ne_zero, Nat.zero_ne_one, eq_self, and_self, and_true, true_and, and_false, false_and, if_true, if_false, reduceIte, Int.reduceToNat, Int.toNat_natCast, e0, e1, e2, e3, e4]); exact rfl) ?_
  refine w_xS f122_11 (Or.inl rfl) (Nat.le_of_ble_eq_true rfl) rfl rfl ⟨Nat.le_of_ble_eq_true rfl, rfl, Nat.le_of_ble_eq_true rfl⟩ (en132 _ _) rfl rfl (s132) (pv132 _ _) (fun c1 => ?_) (fun c1 => ?_)
  · refine w_aloadn f122_14 rfl (by omega) ?_
    refine w_qV f122_15 (Or.inl rfl) rfl (by omega) (okd_of (by assumption)) rfl ⟨Nat.le_of_ble_eq_true rfl, rfl, Nat.le_of_ble_eq_true rfl⟩ (en138 _) (s138 v4 hd.2.2.1.2 hp hcn qs) (fun o9 ho9 => ?_)
    obtain ⟨h1, p, rfl⟩ := ho9
    have pn := p.now hp
    have qs1 : RSt h1 8 w := qs.fr (fun x y z1 z2 => pn x y (by omega) (by omega))
    have qr1 : RTr h1 r w := qr.2.2.fr (fun x y z => pn x y (by omega) (by omega))
    refine w_bok (pv138 _ _) ?_
    refine w_aloadn f122_18 rfl (by omega) ?_
    refine w_iloadn f122_19 rfl ?_
    refine w_qV f122_20 (Or.inl rfl) rfl (by omega) (okd_of (by assumption)) rfl ⟨Nat.le_of_ble_eq_true rfl, rfl, Nat.le_of_ble_eq_true rfl⟩ (en140 _ _) (s140 r0.1 hd qr1 qs1) (fun o9 ho9 => ?_)
    obtain ⟨h2, ⟨o1, c1⟩, rfl⟩ := ho9
    refine w_bok (pv140 _ _) ?_
    refine w_iret f122_23 rfl ?_
    exact ⟨h2, p.cl hp o1 c1, rfl⟩
  · exact absurd hi (by assumption)
theorem s122f {i : Int} (hM : RelM r d N h w) (hi : ¬ (0 ≤ i ∧ i < w 1)) : ev 122 0 [AR 1, AI i] [] (KS r d, h, R) = some (.inr 0, bump (KS r d, h, R)) := by
  refine Rn.eq ?_
  have r0 := hM.rd
  obtain ⟨⟨hr, h40⟩, ⟨hd, hx, hz⟩, hn, qr, qs, qS⟩ := hM
  have hl := shRl (r := r) (d := d) r0.1
  obtain ⟨l1, n1, n2, n3, l5, l6, a0, a1, a2, a3, a4, a5, a6, a7, a8⟩ := id hl
  have n11 := n1.1
  have n21 := n2.1
  have n31 := n3.1
  obtain ⟨l51, l52⟩ := id l5
  have k1 := @kd_1 r d
  have k8 := @kd_8 r d
  have k9 := @kd_9 r d
  have k10 := @kd_10 r d
  have k11 := @kd_11 r d
  have k12 := @kd_12 r d
  have k16 := @kd_16 r d
  have k17 := @kd_17 r d
  have k18 := @kd_18 r d
  have k19 := @kd_19 r d
  have k140 := @kd_140 r d
  have k143 := @kd_143 r d
  have e0 : h (r + 1) 2 = w 0 := qr.1.1.1
  have e1 : h (r + 14) 2 = w 1 := qr.1.2.1.1
  have e2 : h (r + 27) 2 = w 2 := qr.1.2.2.1
  have e3 : h r 5 = w 3 := qr.2.2.1
  have e4 : h 11 0 = w 4 := qs.2.1.1
  obtain ⟨v0, v1, v2, v3, v4⟩ := hd.1.1
  obtain ⟨hd1, hd2⟩ := hW_d hd.2.1
  refine w_iloadn f122_0 rfl ?_
  refine w_aloadn f122_1 rfl (by omega) ?_
  refine w_getR f122_2 (by assumption) rfl (by omega) ?_
  refine w_getR f122_5 (by assumption) rfl (by omega) ?_
  refine w_getI f122_8 (by decide) (by assumption) (by (try simp only [hput, hcopy, Nat.reduceEqDiff, Nat.add_left_cancel_iff, Nat.add_right_cancel_iff, Nat.left_eq_add, Nat.add_eq_left, Nat.right_eq_add, Nat.add_eq_right, Nat.reduceAdd, Nat.add_zero, Nat.succ_ne_self, Nat.one_ne_zero, Nat.zero_ne_one, eq_self, and_self, and_true, true_and, and_false, false_and, if_true, if_false, reduceIte, Int.reduceToNat, Int.toNat_natCast, e0, e1, e2, e3, e4]); exact rfl) ?_
  refine w_xS f122_11 (Or.inl rfl) (Nat.le_of_ble_eq_true rfl) rfl rfl ⟨Nat.le_of_ble_eq_true rfl, rfl, Nat.le_of_ble_eq_true rfl⟩ (en132 _ _) rfl rfl (s132) (pv132 _ _) (fun c1 => ?_) (fun c1 => ?_)
  · exact absurd (by assumption) hi
  · rfl
theorem s123t {i v : Int} (hM : RelM r d N h w) (hp : 0 ≤ h 34 1 ∧ h 34 1 < 8) (hcn : 0 ≤ h 34 2 ∧ h 34 2 ≤ 8) (hi : 0 ≤ i ∧ i < w 2) (hv : 0 ≤ v ∧ v ≤ 9) (hm : fb w (withV (hereW w) i v) = -1) : Rn (ev 123 0 [AR 1, AI i, AI v, AU] [] (KS r d, h, R)) (ChC r d R h w (udI w (6 + i).toNat v) (w (6 + i).toNat)) := by
  have r0 := hM.rd
  obtain ⟨⟨hr, h40⟩, ⟨hd, hx, hz⟩, hn, qr, qs, qS⟩ := hM
  have hl := shRl (r := r) (d := d) r0.1
  obtain ⟨l1, n1, n2, n3, l5, l6, a0, a1, a2, a3, a4, a5, a6, a7, a8⟩ := id hl
  have n11 := n1.1
  have n21 := n2.1
  have n31 := n3.1
  obtain ⟨l51, l52⟩ := id l5
  have k1 := @kd_1 r d
  have k8 := @kd_8 r d
  have k9 := @kd_9 r d
  have k10 := @kd_10 r d
  have k11 := @kd_11 r d
  have k12 := @kd_12 r d
  have k16 := @kd_16 r d
  have k17 := @kd_17 r d
  have k18 := @kd_18 r d
  have k19 := @kd_19 r d
  have k140 := @kd_140 r d
  have k143 := @kd_143 r d
  have e0 : h (r + 1) 2 = w 0 := qr.1.1.1
  have e1 : h (r + 14) 2 = w 1 := qr.1.2.1.1
  have e2 : h (r + 27) 2 = w 2 := qr.1.2.2.1
  have e3 : h r 5 = w 3 := qr.2.2.1
  have e4 : h 11 0 = w 4 := qs.2.1.1
  obtain ⟨v0, v1, v2, v3, v4⟩ := hd.1.1
  obtain ⟨hd1, hd2⟩ := hW_d hd.2.1
  have z141 := s141 (r := r) (d := d) (R := R) (i := i) (v := v) hd qs ⟨hi.1, by omega⟩ hv
  rw [b2i_t hm] at z141
  have cl : ∀ h3 h1, Ot 140 3 h h3 → KpQ h3 w h1 → RSt h1 8 w → ClQ h w (udI w (6 + i).toNat v) (hput h1 10 i.toNat v) := fun h3 h1 o3 p q => by
    have e1 : h3 34 1 = h 34 1 := o3 34 1 (by decide)
    have e2 : h3 34 2 = h 34 2 := o3 34 2 (by decide)
    obtain ⟨c1, c2, c3, c4, c5, c6⟩ := p.cl (by rw [e1]; exact hp) (h2 := hput h1 10 i.toNat v) (fun x y x1 x2 => hput_k (by omega)) (q.set hd ⟨hi.1, by omega⟩ hv)
    rw [e1, e2] at c2
    rw [e1] at c3 c4
    exact ⟨fun x y x1 x2 x3 => (c1 x y x1 x2 x3).trans (o3 x y (by omega)), c2, fun x y x1 x2 x3 => (c3 x y x1 x2 x3).trans (o3 x y (by omega)), c4, c5, c6⟩
  have val : ∀ h1, RSt h1 8 w → h1 10 i.toNat = w (6 + i).toNat := fun h1 q => (q.1.v ⟨hi.1, by omega⟩).trans (hd2 i hi.1 (by omega))
  refine w_iloadn f123_0 rfl ?_
  refine w_aloadn f123_1 rfl (by omega) ?_
  refine w_getR f123_2 (by assumption) rfl (by omega) ?_
  refine w_getR f123_5 (by assumption) rfl (by omega) ?_
  refine w_getI f123_8 (by decide) (by assumption) (by (try simp only [hput, hcopy, Nat.reduceEqDiff, Nat.add_left_cancel_iff, Nat.add_right_cancel_iff, Nat.left_eq_add, Nat.add_eq_left, Nat.right_eq_add, Nat.add_eq_right, Nat.reduceAdd, Nat.add_zero, Nat.succ_ne_self, Nat.one_ne_zero, Nat.zero_ne_one, eq_self, and_self, and_true, true_and, and_false, false_and, if_true, if_false, reduceIte, Int.reduceToNat, Int.toNat_natCast, e0, e1, e2, e3, e4]); exact rfl) ?_
  refine w_xS f123_11 (Or.inl rfl) (Nat.le_of_ble_eq_true rfl) rfl rfl ⟨Nat.le_of_ble_eq_true rfl, rfl, Nat.le_of_ble_eq_true rfl⟩ (en132 _ _) rfl rfl (s132) (pv132 _ _) (fun c1 => ?_) (fun c1 => ?_)
  · refine w_iloadn f123_14 rfl ?_
    refine w_if_lt (t := 28) f123_15 (by decide) (fun c2 => by omega) (fun c2 => ?_)
    refine w_iloadn f123_18 rfl ?_
    refine w_bipush (v := 9) f123_19 (by decide) ?_
    refine w_ic_gt (t := 28) f123_21 (by decide) (fun c3 => by omega) (fun c3 => ?_)
    refine w_iconst (v := 1) f123_24 (by decide) ?_
    refine w_goto (t := 29) f123_25 (by decide) ?_
    refine w_xS f123_29 (Or.inl rfl) (Nat.le_of_ble_eq_true rfl) rfl rfl ⟨Nat.le_of_ble_eq_true rfl, rfl, Nat.le_of_ble_eq_true rfl⟩ (en133 _) rfl rfl (s133) (pv133 _ _) (fun c4 => ?_) (fun c4 => ?_)
    · refine w_aloadn f123_32 rfl (by omega) ?_
      refine w_iloadn f123_33 rfl ?_
      refine w_iloadn f123_34 rfl ?_
      refine w_qV f123_35 (Or.inl rfl) rfl (by omega) (okd_of (by assumption)) rfl ⟨Nat.le_of_ble_eq_true rfl, rfl, Nat.le_of_ble_eq_true rfl⟩ (en141 _ _ _) (z141) (fun o9 ho9 => ?_)
      obtain ⟨h3, o3, rfl⟩ := ho9
      have qs3 : RSt h3 8 w := qs.fr (fun x y z1 z2 => o3 x y (by omega))
      refine w_bok (pv141 _ _) ?_
      refine w_xS f123_38 (Or.inl rfl) (Nat.le_of_ble_eq_true rfl) rfl rfl ⟨Nat.le_of_ble_eq_true rfl, rfl, Nat.le_of_ble_eq_true rfl⟩ (en134 _) rfl rfl (s134) (pv134 _ _) (fun c5 => ?_) (fun c5 => ?_)
      · refine w_aloadn f123_41 rfl (by omega) ?_
        refine w_qV f123_42 (Or.inl rfl) rfl (by omega) (okd_of (by assumption)) rfl ⟨Nat.le_of_ble_eq_true rfl, rfl, Nat.le_of_ble_eq_true rfl⟩ (en138 _) (s138 (h := h3) v4 hd.2.2.1.2 (by rw [o3 34 1 (by decide)]; exact hp) (by rw [o3 34 2 (by decide)]; exact hcn) qs3) (fun o9 ho9 => ?_)
        obtain ⟨h1, p, rfl⟩ := ho9
        have pn := p.now (by rw [o3 34 1 (by decide)]; exact hp)
        have qs1 : RSt h1 8 w := qs3.fr (fun x y z1 z2 => pn x y (by omega) (by omega))
        refine w_bok (pv138 _ _) ?_
        refine w_aloadn f123_45 rfl (by omega) ?_
        refine w_getR f123_46 (by assumption) rfl (by omega) ?_
        refine w_getR f123_49 (by assumption) rfl (by omega) ?_
        refine w_getR f123_52 (by assumption) rfl (by omega) ?_
        refine w_iloadn f123_55 rfl ?_
        refine w_iald f123_56 (by assumption) (by omega) (by exact val _ qs1) ?_
        refine w_istoren f123_57 (Nat.le_of_ble_eq_true rfl) (sto_4_3 rfl) ?_
        refine w_aloadn f123_58 rfl (by omega) ?_
        refine w_getR f123_59 (by assumption) rfl (by omega) ?_
        refine w_getR f123_62 (by assumption) rfl (by omega) ?_
        refine w_getR f123_65 (by assumption) rfl (by omega) ?_
        refine w_iloadn f123_68 rfl ?_
        refine w_iloadn f123_69 rfl ?_
        refine w_iast f123_70 (by assumption) (by omega) ?_
        refine w_iloadn f123_71 rfl ?_
        refine w_iret f123_72 rfl ?_
        exact ⟨_, cl _ _ o3 p qs1, rfl⟩
      · first | exact absurd hi (by assumption) | exact absurd (show (1 : Int) ≠ 0 by decide) (by assumption)
    · first | exact absurd hi (by assumption) | exact absurd (show (1 : Int) ≠ 0 by decide) (by assumption)
  · first | exact absurd hi (by assumption) | exact absurd (show (1 : Int) ≠ 0 by decide) (by assumption)
theorem s123a {i v : Int} (hM : RelM r d N h w) (hi : ¬ (0 ≤ i ∧ i < w 2)) : ev 123 0 [AR 1, AI i, AI v, AU] [] (KS r d, h, R) = some (.inr 0, bump (KS r d, h, R)) := by
  refine Rn.eq ?_
  have r0 := hM.rd
  obtain ⟨⟨hr, h40⟩, ⟨hd, hx, hz⟩, hn, qr, qs, qS⟩ := hM
  have hl := shRl (r := r) (d := d) r0.1
  obtain ⟨l1, n1, n2, n3, l5, l6, a0, a1, a2, a3, a4, a5, a6, a7, a8⟩ := id hl
  have n11 := n1.1
  have n21 := n2.1
  have n31 := n3.1
  obtain ⟨l51, l52⟩ := id l5
  have k1 := @kd_1 r d
  have k8 := @kd_8 r d
  have k9 := @kd_9 r d
  have k10 := @kd_10 r d
  have k11 := @kd_11 r d
  have k12 := @kd_12 r d
  have k16 := @kd_16 r d
  have k17 := @kd_17 r d
  have k18 := @kd_18 r d
  have k19 := @kd_19 r d
  have k140 := @kd_140 r d
  have k143 := @kd_143 r d
  have e0 : h (r + 1) 2 = w 0 := qr.1.1.1
  have e1 : h (r + 14) 2 = w 1 := qr.1.2.1.1
  have e2 : h (r + 27) 2 = w 2 := qr.1.2.2.1
  have e3 : h r 5 = w 3 := qr.2.2.1
  have e4 : h 11 0 = w 4 := qs.2.1.1
  obtain ⟨v0, v1, v2, v3, v4⟩ := hd.1.1
  obtain ⟨hd1, hd2⟩ := hW_d hd.2.1
  refine w_iloadn f123_0 rfl ?_
  refine w_aloadn f123_1 rfl (by omega) ?_
  refine w_getR f123_2 (by assumption) rfl (by omega) ?_
  refine w_getR f123_5 (by assumption) rfl (by omega) ?_
  refine w_getI f123_8 (by decide) (by assumption) (by (try simp only [hput, hcopy, Nat.reduceEqDiff, Nat.add_left_cancel_iff, Nat.add_right_cancel_iff, Nat.left_eq_add, Nat.add_eq_left, Nat.right_eq_add, Nat.add_eq_right, Nat.reduceAdd, Nat.add_zero, Nat.succ_ne_self, Nat.one_ne_zero, Nat.zero_ne_one, eq_self, and_self, and_true, true_and, and_false, false_and, if_true, if_false, reduceIte, Int.reduceToNat, Int.toNat_natCast, e0, e1, e2, e3, e4]); exact rfl) ?_
  refine w_xS f123_11 (Or.inl rfl) (Nat.le_of_ble_eq_true rfl) rfl rfl ⟨Nat.le_of_ble_eq_true rfl, rfl, Nat.le_of_ble_eq_true rfl⟩ (en132 _ _) rfl rfl (s132) (pv132 _ _) (fun c1 => ?_) (fun c1 => ?_)
  · exact absurd (by assumption) hi
  · rfl
theorem s123b {i v : Int} (hM : RelM r d N h w) (hi : 0 ≤ i ∧ i < w 2) (hv : ¬ (0 ≤ v ∧ v ≤ 9)) : ev 123 0 [AR 1, AI i, AI v, AU] [] (KS r d, h, R) = some (.inr 1, bump (KS r d, h, R)) := by
  refine Rn.eq ?_
  have r0 := hM.rd
  obtain ⟨⟨hr, h40⟩, ⟨hd, hx, hz⟩, hn, qr, qs, qS⟩ := hM
  have hl := shRl (r := r) (d := d) r0.1
  obtain ⟨l1, n1, n2, n3, l5, l6, a0, a1, a2, a3, a4, a5, a6, a7, a8⟩ := id hl
  have n11 := n1.1
  have n21 := n2.1
  have n31 := n3.1
  obtain ⟨l51, l52⟩ := id l5
  have k1 := @kd_1 r d
  have k8 := @kd_8 r d
  have k9 := @kd_9 r d
  have k10 := @kd_10 r d
  have k11 := @kd_11 r d
  have k12 := @kd_12 r d
  have k16 := @kd_16 r d
  have k17 := @kd_17 r d
  have k18 := @kd_18 r d
  have k19 := @kd_19 r d
  have k140 := @kd_140 r d
  have k143 := @kd_143 r d
  have e0 : h (r + 1) 2 = w 0 := qr.1.1.1
  have e1 : h (r + 14) 2 = w 1 := qr.1.2.1.1
  have e2 : h (r + 27) 2 = w 2 := qr.1.2.2.1
  have e3 : h r 5 = w 3 := qr.2.2.1
  have e4 : h 11 0 = w 4 := qs.2.1.1
  obtain ⟨v0, v1, v2, v3, v4⟩ := hd.1.1
  obtain ⟨hd1, hd2⟩ := hW_d hd.2.1
  refine w_iloadn f123_0 rfl ?_
  refine w_aloadn f123_1 rfl (by omega) ?_
  refine w_getR f123_2 (by assumption) rfl (by omega) ?_
  refine w_getR f123_5 (by assumption) rfl (by omega) ?_
  refine w_getI f123_8 (by decide) (by assumption) (by (try simp only [hput, hcopy, Nat.reduceEqDiff, Nat.add_left_cancel_iff, Nat.add_right_cancel_iff, Nat.left_eq_add, Nat.add_eq_left, Nat.right_eq_add, Nat.add_eq_right, Nat.reduceAdd, Nat.add_zero, Nat.succ_ne_self, Nat.one_ne_zero, Nat.zero_ne_one, eq_self, and_self, and_true, true_and, and_false, false_and, if_true, if_false, reduceIte, Int.reduceToNat, Int.toNat_natCast, e0, e1, e2, e3, e4]); exact rfl) ?_
  refine w_xS f123_11 (Or.inl rfl) (Nat.le_of_ble_eq_true rfl) rfl rfl ⟨Nat.le_of_ble_eq_true rfl, rfl, Nat.le_of_ble_eq_true rfl⟩ (en132 _ _) rfl rfl (s132) (pv132 _ _) (fun c1 => ?_) (fun c1 => ?_)
  · refine w_iloadn f123_14 rfl ?_
    refine w_if_lt (t := 28) f123_15 (by decide) (fun c2 => ?_) (fun c2 => ?_)
    · refine w_iconst (v := 0) f123_28 (by decide) ?_
      refine w_xS f123_29 (Or.inl rfl) (Nat.le_of_ble_eq_true rfl) rfl rfl ⟨Nat.le_of_ble_eq_true rfl, rfl, Nat.le_of_ble_eq_true rfl⟩ (en133 _) rfl rfl (s133) (pv133 _ _) (fun c3 => ?_) (fun c3 => ?_)
      · exfalso; omega
      · first | exact absurd hi (by assumption) | rfl | (exfalso; omega)
    · refine w_iloadn f123_18 rfl ?_
      refine w_bipush (v := 9) f123_19 (by decide) ?_
      refine w_ic_gt (t := 28) f123_21 (by decide) (fun c4 => ?_) (fun c4 => ?_)
      · refine w_iconst (v := 0) f123_28 (by decide) ?_
        refine w_xS f123_29 (Or.inl rfl) (Nat.le_of_ble_eq_true rfl) rfl rfl ⟨Nat.le_of_ble_eq_true rfl, rfl, Nat.le_of_ble_eq_true rfl⟩ (en133 _) rfl rfl (s133) (pv133 _ _) (fun c5 => ?_) (fun c5 => ?_)
        · exfalso; omega
        · first | exact absurd hi (by assumption) | rfl | (exfalso; omega)
      · refine w_iconst (v := 1) f123_24 (by decide) ?_
        refine w_goto (t := 29) f123_25 (by decide) ?_
        refine w_xS f123_29 (Or.inl rfl) (Nat.le_of_ble_eq_true rfl) rfl rfl ⟨Nat.le_of_ble_eq_true rfl, rfl, Nat.le_of_ble_eq_true rfl⟩ (en133 _) rfl rfl (s133) (pv133 _ _) (fun c6 => ?_) (fun c6 => ?_)
        · exfalso; omega
        · first | exact absurd hi (by assumption) | rfl | (exfalso; omega)
  · first | exact absurd hi (by assumption) | rfl | (exfalso; omega)
theorem s123c {i v : Int} (hM : RelM r d N h w) (hi : 0 ≤ i ∧ i < w 2) (hv : 0 ≤ v ∧ v ≤ 9) (hm : fb w (withV (hereW w) i v) ≠ -1) : Rn (ev 123 0 [AR 1, AI i, AI v, AU] [] (KS r d, h, R)) (fun o => ∃ h1, Ot 140 3 h h1 ∧ o = (.inr 2, bump (KS r d, h1, R))) := by
  have r0 := hM.rd
  obtain ⟨⟨hr, h40⟩, ⟨hd, hx, hz⟩, hn, qr, qs, qS⟩ := hM
  have hl := shRl (r := r) (d := d) r0.1
  obtain ⟨l1, n1, n2, n3, l5, l6, a0, a1, a2, a3, a4, a5, a6, a7, a8⟩ := id hl
  have n11 := n1.1
  have n21 := n2.1
  have n31 := n3.1
  obtain ⟨l51, l52⟩ := id l5
  have k1 := @kd_1 r d
  have k8 := @kd_8 r d
  have k9 := @kd_9 r d
  have k10 := @kd_10 r d
  have k11 := @kd_11 r d
  have k12 := @kd_12 r d
  have k16 := @kd_16 r d
  have k17 := @kd_17 r d
  have k18 := @kd_18 r d
  have k19 := @kd_19 r d
  have k140 := @kd_140 r d
  have k143 := @kd_143 r d
  have e0 : h (r + 1) 2 = w 0 := qr.1.1.1
  have e1 : h (r + 14) 2 = w 1 := qr.1.2.1.1
  have e2 : h (r + 27) 2 = w 2 := qr.1.2.2.1
  have e3 : h r 5 = w 3 := qr.2.2.1
  have e4 : h 11 0 = w 4 := qs.2.1.1
  obtain ⟨v0, v1, v2, v3, v4⟩ := hd.1.1
  obtain ⟨hd1, hd2⟩ := hW_d hd.2.1
  have z141 := s141 (r := r) (d := d) (R := R) (i := i) (v := v) hd qs ⟨hi.1, by omega⟩ hv
  rw [b2i_f hm] at z141
  refine w_iloadn f123_0 rfl ?_
  refine w_aloadn f123_1 rfl (by omega) ?_
  refine w_getR f123_2 (by assumption) rfl (by omega) ?_
  refine w_getR f123_5 (by assumption) rfl (by omega) ?_
  refine w_getI f123_8 (by decide) (by assumption) (by (try simp only [hput, hcopy, Nat.reduceEqDiff, Nat.add_left_cancel_iff, Nat.add_right_cancel_iff, Nat.left_eq_add, Nat.add_eq_left, Nat.right_eq_add, Nat.add_eq_right, Nat.reduceAdd, Nat.add_zero, Nat.succ_ne_self, Nat.one_ne_zero, Nat.zero_ne_one, eq_self, and_self, and_true, true_and, and_false, false_and, if_true, if_false, reduceIte, Int.reduceToNat, Int.toNat_natCast, e0, e1, e2, e3, e4]); exact rfl) ?_
  refine w_xS f123_11 (Or.inl rfl) (Nat.le_of_ble_eq_true rfl) rfl rfl ⟨Nat.le_of_ble_eq_true rfl, rfl, Nat.le_of_ble_eq_true rfl⟩ (en132 _ _) rfl rfl (s132) (pv132 _ _) (fun c1 => ?_) (fun c1 => ?_)
  · refine w_iloadn f123_14 rfl ?_
    refine w_if_lt (t := 28) f123_15 (by decide) (fun c2 => by omega) (fun c2 => ?_)
    refine w_iloadn f123_18 rfl ?_
    refine w_bipush (v := 9) f123_19 (by decide) ?_
    refine w_ic_gt (t := 28) f123_21 (by decide) (fun c3 => by omega) (fun c3 => ?_)
    refine w_iconst (v := 1) f123_24 (by decide) ?_
    refine w_goto (t := 29) f123_25 (by decide) ?_
    refine w_xS f123_29 (Or.inl rfl) (Nat.le_of_ble_eq_true rfl) rfl rfl ⟨Nat.le_of_ble_eq_true rfl, rfl, Nat.le_of_ble_eq_true rfl⟩ (en133 _) rfl rfl (s133) (pv133 _ _) (fun c4 => ?_) (fun c4 => ?_)
    · refine w_aloadn f123_32 rfl (by omega) ?_
      refine w_iloadn f123_33 rfl ?_
      refine w_iloadn f123_34 rfl ?_
      refine w_qV f123_35 (Or.inl rfl) rfl (by omega) (okd_of (by assumption)) rfl ⟨Nat.le_of_ble_eq_true rfl, rfl, Nat.le_of_ble_eq_true rfl⟩ (en141 _ _ _) (z141) (fun o9 ho9 => ?_)
      obtain ⟨h3, o3, rfl⟩ := ho9
      refine w_bok (pv141 _ _) ?_
      refine w_xS f123_38 (Or.inl rfl) (Nat.le_of_ble_eq_true rfl) rfl rfl ⟨Nat.le_of_ble_eq_true rfl, rfl, Nat.le_of_ble_eq_true rfl⟩ (en134 _) rfl rfl (s134) (pv134 _ _) (fun c5 => ?_) (fun c5 => ?_)
      · exact absurd rfl (show (0 : Int) ≠ 0 by assumption)
      · first | exact absurd hi (by assumption) | exact ⟨h3, o3, rfl⟩ | exact absurd (show (1 : Int) ≠ 0 by decide) (by assumption)
    · first | exact absurd hi (by assumption) | exact ⟨h3, o3, rfl⟩ | exact absurd (show (1 : Int) ≠ 0 by decide) (by assumption)
  · first | exact absurd hi (by assumption) | exact ⟨h3, o3, rfl⟩ | exact absurd (show (1 : Int) ≠ 0 by decide) (by assumption)
theorem s124 (hM : RelM r d N h w) (hp : 0 ≤ h 34 1 ∧ h 34 1 < 8) (hcn : 0 ≤ h 34 2 ∧ h 34 2 ≤ 8) : Rn (ev 124 0 [AR 1, AU] [] (KS r d, h, R)) (ChC r d R h w (g2sW w) (w 5)) := by
  have r0 := hM.rd
  obtain ⟨⟨hr, h40⟩, ⟨hd, hx, hz⟩, hn, qr, qs, qS⟩ := hM
  have hl := shRl (r := r) (d := d) r0.1
  obtain ⟨l1, n1, n2, n3, l5, l6, a0, a1, a2, a3, a4, a5, a6, a7, a8⟩ := id hl
  have n11 := n1.1
  have n21 := n2.1
  have n31 := n3.1
  obtain ⟨l51, l52⟩ := id l5
  have k1 := @kd_1 r d
  have k8 := @kd_8 r d
  have k9 := @kd_9 r d
  have k10 := @kd_10 r d
  have k11 := @kd_11 r d
  have k12 := @kd_12 r d
  have k16 := @kd_16 r d
  have k17 := @kd_17 r d
  have k18 := @kd_18 r d
  have k19 := @kd_19 r d
  have k140 := @kd_140 r d
  have k143 := @kd_143 r d
  have e0 : h (r + 1) 2 = w 0 := qr.1.1.1
  have e1 : h (r + 14) 2 = w 1 := qr.1.2.1.1
  have e2 : h (r + 27) 2 = w 2 := qr.1.2.2.1
  have e3 : h r 5 = w 3 := qr.2.2.1
  have e4 : h 11 0 = w 4 := qs.2.1.1
  obtain ⟨v0, v1, v2, v3, v4⟩ := hd.1.1
  obtain ⟨hd1, hd2⟩ := hW_d hd.2.1
  have e9 : h 9 0 = w 5 := qs.1.1.trans hd1
  refine w_aloadn f124_0 rfl (by omega) ?_
  refine w_qV f124_1 (Or.inl rfl) rfl (by omega) (okd_of (by assumption)) rfl ⟨Nat.le_of_ble_eq_true rfl, rfl, Nat.le_of_ble_eq_true rfl⟩ (en138 _) (s138 v4 hd.2.2.1.2 hp hcn qs) (fun o9 ho9 => ?_)
  obtain ⟨h1, p, rfl⟩ := ho9
  have pn := p.now hp
  have qs1 : RSt h1 8 w := qs.fr (fun x y z1 z2 => pn x y (by omega) (by omega))
  have qr1 : RTr h1 r w := qr.2.2.fr (fun x y z => pn x y (by omega) (by omega))
  refine w_bok (pv138 _ _) ?_
  refine w_aloadn f124_4 rfl (by omega) ?_
  refine w_getR f124_5 (by assumption) rfl (by omega) ?_
  refine w_getR f124_8 (by assumption) rfl (by omega) ?_
  refine w_getI f124_11 (by decide) (by assumption) (by exact (pn _ _ (by decide) (by decide)).trans e9) ?_
  refine w_istoren f124_14 (Nat.le_of_ble_eq_true rfl) (sto_2_1 rfl) ?_
  refine w_aloadn f124_15 rfl (by omega) ?_
  refine w_qV f124_16 (Or.inl rfl) rfl (by omega) (okd_of (by assumption)) rfl ⟨Nat.le_of_ble_eq_true rfl, rfl, Nat.le_of_ble_eq_true rfl⟩ (en142 _) (s142 r0.1 hd (qr.2.1.fr (fun x y z1 z2 => pn x y (by omega) (by omega))) qs1) (fun o9 ho9 => ?_)
  obtain ⟨h2, ⟨o1, c1⟩, rfl⟩ := ho9
  refine w_bok (pv142 _ _) ?_
  refine w_iloadn f124_19 rfl ?_
  refine w_iret f124_20 rfl ?_
  exact ⟨h2, p.cl hp o1 c1, rfl⟩
theorem s125 (hM : RelM r d N h w) (hp : 0 ≤ h 34 1 ∧ h 34 1 < 8) (hcn : 0 ≤ h 34 2 ∧ h 34 2 ≤ 8) : Rn (ev 125 0 [AR 1, AU] [] (KS r d, h, R)) (ChC r d R h w (clrW w) (w 12)) := by
  have r0 := hM.rd
  obtain ⟨⟨hr, h40⟩, ⟨hd, hx, hz⟩, hn, qr, qs, qS⟩ := hM
  have hl := shRl (r := r) (d := d) r0.1
  obtain ⟨l1, n1, n2, n3, l5, l6, a0, a1, a2, a3, a4, a5, a6, a7, a8⟩ := id hl
  have n11 := n1.1
  have n21 := n2.1
  have n31 := n3.1
  obtain ⟨l51, l52⟩ := id l5
  have k1 := @kd_1 r d
  have k8 := @kd_8 r d
  have k9 := @kd_9 r d
  have k10 := @kd_10 r d
  have k11 := @kd_11 r d
  have k12 := @kd_12 r d
  have k16 := @kd_16 r d
  have k17 := @kd_17 r d
  have k18 := @kd_18 r d
  have k19 := @kd_19 r d
  have k140 := @kd_140 r d
  have k143 := @kd_143 r d
  have e0 : h (r + 1) 2 = w 0 := qr.1.1.1
  have e1 : h (r + 14) 2 = w 1 := qr.1.2.1.1
  have e2 : h (r + 27) 2 = w 2 := qr.1.2.2.1
  have e3 : h r 5 = w 3 := qr.2.2.1
  have e4 : h 11 0 = w 4 := qs.2.1.1
  obtain ⟨v0, v1, v2, v3, v4⟩ := hd.1.1
  obtain ⟨hd1, hd2⟩ := hW_d hd.2.1
  have e9 : h 9 0 = w 5 := qs.1.1.trans hd1
  have e12 : h 16 3 = w 12 := qs.2.2.1.1
  have h5 := hd.2.1.1
  refine w_aloadn f125_0 rfl (by omega) ?_
  refine w_qV f125_1 (Or.inl rfl) rfl (by omega) (okd_of (by assumption)) rfl ⟨Nat.le_of_ble_eq_true rfl, rfl, Nat.le_of_ble_eq_true rfl⟩ (en138 _) (s138 v4 hd.2.2.1.2 hp hcn qs) (fun o9 ho9 => ?_)
  obtain ⟨h1, p, rfl⟩ := ho9
  have pn := p.now hp
  have qs1 : RSt h1 8 w := qs.fr (fun x y z1 z2 => pn x y (by omega) (by omega))
  have qr1 : RTr h1 r w := qr.2.2.fr (fun x y z => pn x y (by omega) (by omega))
  refine w_bok (pv138 _ _) ?_
  refine w_aloadn f125_4 rfl (by omega) ?_
  refine w_getR f125_5 (by assumption) rfl (by omega) ?_
  refine w_getR f125_8 (by assumption) rfl (by omega) ?_
  refine w_getI f125_11 (by decide) (by assumption) (by exact (pn _ _ (by decide) (by decide)).trans e12) ?_
  refine w_istoren f125_14 (Nat.le_of_ble_eq_true rfl) (sto_2_1 rfl) ?_
  refine w_aloadn f125_15 rfl (by omega) ?_
  refine w_getR f125_16 (by assumption) rfl (by omega) ?_
  refine w_getR f125_19 (by assumption) rfl (by omega) ?_
  refine w_aloadn f125_22 rfl (by omega) ?_
  refine w_getR f125_23 (by assumption) rfl (by omega) ?_
  refine w_getR f125_26 (by assumption) rfl (by omega) ?_
  refine w_getI f125_29 (by decide) (by assumption) (by exact (pn _ _ (by decide) (by decide)).trans e9) ?_
  refine w_qV f125_32 (Or.inl rfl) rfl (by omega) (okd_of (by assumption)) rfl ⟨Nat.le_of_ble_eq_true rfl, rfl, Nat.le_of_ble_eq_true rfl⟩ (en5 _ _) (s5 sh8.2.2.2 (by decide) ⟨h5.1, by omega⟩) (fun o9 ho9 => ?_)
  obtain ⟨h2, ⟨o1, c1⟩, rfl⟩ := ho9
  refine w_bok (pv5 _ _) ?_
  refine w_iloadn f125_35 rfl ?_
  refine w_iret f125_36 rfl ?_
  have y := RSt.clr hd qs1 o1 c1
  exact ⟨h2, p.cl hp y.1 y.2, rfl⟩
theorem s126t {i p c : Int} (hM : RelM r d N h w) (hp : 0 ≤ h 34 1 ∧ h 34 1 < 8) (hcn : 0 ≤ h 34 2 ∧ h 34 2 ≤ 8) (hi : 0 ≤ i ∧ i < w 2) (ho : (0 ≤ p ∧ p ≤ 5) ∧ (0 ≤ c ∧ c ≤ 9)) (hm : mkpB w i p c = true) : Rn (ev 126 0 [AR 1, AI i, AI p, AI c] [] (KS r d, h, R)) (ChC r d R h w (keepW w (-1) i p c) (w 4)) := by
  have r0 := hM.rd
  obtain ⟨⟨hr, h40⟩, ⟨hd, hx, hz⟩, hn, qr, qs, qS⟩ := hM
  have hl := shRl (r := r) (d := d) r0.1
  obtain ⟨l1, n1, n2, n3, l5, l6, a0, a1, a2, a3, a4, a5, a6, a7, a8⟩ := id hl
  have n11 := n1.1
  have n21 := n2.1
  have n31 := n3.1
  obtain ⟨l51, l52⟩ := id l5
  have k1 := @kd_1 r d
  have k8 := @kd_8 r d
  have k9 := @kd_9 r d
  have k10 := @kd_10 r d
  have k11 := @kd_11 r d
  have k12 := @kd_12 r d
  have k16 := @kd_16 r d
  have k17 := @kd_17 r d
  have k18 := @kd_18 r d
  have k19 := @kd_19 r d
  have k140 := @kd_140 r d
  have k143 := @kd_143 r d
  have e0 : h (r + 1) 2 = w 0 := qr.1.1.1
  have e1 : h (r + 14) 2 = w 1 := qr.1.2.1.1
  have e2 : h (r + 27) 2 = w 2 := qr.1.2.2.1
  have e3 : h r 5 = w 3 := qr.2.2.1
  have e4 : h 11 0 = w 4 := qs.2.1.1
  obtain ⟨v0, v1, v2, v3, v4⟩ := hd.1.1
  obtain ⟨hd1, hd2⟩ := hW_d hd.2.1
  unfold mkpB at hm
  simp only [Bool.and_eq_true, decide_eq_true_eq] at hm
  obtain ⟨⟨m1, m2⟩, m3⟩ := hm
  have wi := hd.1.2.1
  obtain ⟨-, y0, y1, y2, -⟩ := stW_v (wi 0 (by decide) (by decide)) (wi 1 (by decide) (by decide)) (wi 2 (by decide) (by decide))
  have z9 : h (r + 41) i.toNat = w (9 + i).toNat := by
    refine (qr.2.1.v (i := i) ⟨hi.1, by omega⟩).trans ?_
    rcases (show i = 0 ∨ i = 1 ∨ i = 2 by omega) with rfl | rfl | rfl
    · exact y0
    · exact y1
    · exact y2
  have z6 : h 10 i.toNat = w (6 + i).toNat := (qs.1.v ⟨hi.1, by omega⟩).trans (hd2 i hi.1 (by omega))
  have w1 := s136 (σ := (KS r d, h, R)) (v := w (6 + i).toNat) (op := p) (c := c)
  have w2 := s136 (σ := (KS r d, h, R)) (v := w (9 + i).toNat) (op := p) (c := c)
  rw [b2i_t m2] at w1
  rw [b2i_t m3] at w2
  have cl : ∀ h1, KpQ h w h1 → RSt h1 8 w → ClQ h w (keepW w (-1) i p c) (addH h1 11 (w 4) (-1) i p c) := fun h1 q s => by
    have eo : ∀ y : Nat, y ≠ 4 → (y < 309 ∨ 357 ≤ y) → keepW w (-1) i p c y = w y := fun y y1 y2 => by
      unfold keepW udI
      rw [if_neg y1, if_neg (by omega), if_neg (by omega), if_neg (by omega), if_neg (by omega)]
    refine q.cl hp (fun x y x1 x2 => addH_o x y (by omega)) ⟨?_, s.2.1.add ⟨v4.1, by omega⟩, (s.2.2.ot addH_o (by decide)).ag hd.2.2.1.2 (fun y hy => eo y (by omega) (by omega))⟩
    rw [hW_ag (eo 5 (by omega) (by omega)) (eo 6 (by omega) (by omega)) (eo 7 (by omega) (by omega)) (eo 8 (by omega) (by omega))]
    exact s.1.ot addH_o (by decide)
  have e44 : ∀ h1, RSt h1 8 w → h1 11 0 = w 4 := fun h1 s => s.2.1.1
  refine w_iloadn f126_0 rfl ?_
  refine w_aloadn f126_1 rfl (by omega) ?_
  refine w_getR f126_2 (by assumption) rfl (by omega) ?_
  refine w_getR f126_5 (by assumption) rfl (by omega) ?_
  refine w_getI f126_8 (by decide) (by assumption) (by (try simp only [hput, hcopy, Nat.reduceEqDiff, Nat.add_left_cancel_iff, Nat.add_right_cancel_iff, Nat.left_eq_add, Nat.add_eq_left, Nat.right_eq_add, Nat.add_eq_right, Nat.reduceAdd, Nat.add_zero, Nat.succ_ne_self, Nat.one_ne_zero, Nat.zero_ne_one, eq_self, and_self, and_true, true_and, and_false, false_and, if_true, if_false, reduceIte, Int.reduceToNat, Int.toNat_natCast, e0, e1, e2, e3, e4]); exact rfl) ?_
  refine w_xS f126_11 (Or.inl rfl) (Nat.le_of_ble_eq_true rfl) rfl rfl ⟨Nat.le_of_ble_eq_true rfl, rfl, Nat.le_of_ble_eq_true rfl⟩ (en132 _ _) rfl rfl (s132) (pv132 _ _) (fun c1 => ?_) (fun c1 => ?_)
  · refine w_iloadn f126_14 rfl ?_
    refine w_if_lt (t := 37) f126_15 (by decide) (fun c2 => by omega) (fun c2 => ?_)
    refine w_iloadn f126_18 rfl ?_
    refine w_iconst (v := 5) f126_19 (by decide) ?_
    refine w_ic_gt (t := 37) f126_20 (by decide) (fun c3 => by omega) (fun c3 => ?_)
    refine w_iloadn f126_23 rfl ?_
    refine w_if_lt (t := 37) f126_24 (by decide) (fun c4 => by omega) (fun c4 => ?_)
    refine w_iloadn f126_27 rfl ?_
    refine w_bipush (v := 9) f126_28 (by decide) ?_
    refine w_ic_gt (t := 37) f126_30 (by decide) (fun c5 => by omega) (fun c5 => ?_)
    refine w_iconst (v := 1) f126_33 (by decide) ?_
    refine w_goto (t := 38) f126_34 (by decide) ?_
    refine w_xS f126_38 (Or.inl rfl) (Nat.le_of_ble_eq_true rfl) rfl rfl ⟨Nat.le_of_ble_eq_true rfl, rfl, Nat.le_of_ble_eq_true rfl⟩ (en133 _) rfl rfl (s133) (pv133 _ _) (fun c6 => ?_) (fun c6 => ?_)
    · refine w_aloadn f126_41 rfl (by omega) ?_
      refine w_getR f126_42 (by assumption) rfl (by omega) ?_
      refine w_getR f126_45 (by assumption) rfl (by omega) ?_
      refine w_getI f126_48 (by decide) (by assumption) (by (try simp only [hput, hcopy, Nat.reduceEqDiff, Nat.add_left_cancel_iff, Nat.add_right_cancel_iff, Nat.left_eq_add, Nat.add_eq_left, Nat.right_eq_add, Nat.add_eq_right, Nat.reduceAdd, Nat.add_zero, Nat.succ_ne_self, Nat.one_ne_zero, Nat.zero_ne_one, eq_self, and_self, and_true, true_and, and_false, false_and, if_true, if_false, reduceIte, Int.reduceToNat, Int.toNat_natCast, e0, e1, e2, e3, e4]); exact rfl) ?_
      refine w_bipush (v := 12) f126_51 (by decide) ?_
      refine w_ic_ge (t := 100) f126_53 (by decide) (fun c7 => by omega) (fun c7 => ?_)
      refine w_aloadn f126_56 rfl (by omega) ?_
      refine w_getR f126_57 (by assumption) rfl (by omega) ?_
      refine w_getR f126_60 (by assumption) rfl (by omega) ?_
      refine w_getR f126_63 (by assumption) rfl (by omega) ?_
      refine w_iloadn f126_66 rfl ?_
      refine w_iald f126_67 (by assumption) (by omega) (by exact z6) ?_
      refine w_iloadn f126_68 rfl ?_
      refine w_iloadn f126_69 rfl ?_
      refine w_cS f126_70 (Or.inl rfl) (Nat.le_of_ble_eq_true rfl) rfl rfl ⟨Nat.le_of_ble_eq_true rfl, rfl, Nat.le_of_ble_eq_true rfl⟩ (en136 _ _ _) (w1) (pv136 _ _) ?_
      refine w_if_eq (t := 100) f126_73 (by decide) (fun c8 => by omega) (fun c8 => ?_)
      refine w_aloadn f126_76 rfl (by omega) ?_
      refine w_getR f126_77 (by assumption) rfl (by omega) ?_
      refine w_getR f126_80 (by assumption) rfl (by omega) ?_
      refine w_getR f126_83 (by assumption) rfl (by omega) ?_
      refine w_iloadn f126_86 rfl ?_
      refine w_iald f126_87 (by assumption) (by omega) (by exact z9) ?_
      refine w_iloadn f126_88 rfl ?_
      refine w_iloadn f126_89 rfl ?_
      refine w_cS f126_90 (Or.inl rfl) (Nat.le_of_ble_eq_true rfl) rfl rfl ⟨Nat.le_of_ble_eq_true rfl, rfl, Nat.le_of_ble_eq_true rfl⟩ (en136 _ _ _) (w2) (pv136 _ _) ?_
      refine w_if_eq (t := 100) f126_93 (by decide) (fun c9 => by omega) (fun c9 => ?_)
      refine w_iconst (v := 1) f126_96 (by decide) ?_
      refine w_goto (t := 101) f126_97 (by decide) ?_
      refine w_xS f126_101 (Or.inl rfl) (Nat.le_of_ble_eq_true rfl) rfl rfl ⟨Nat.le_of_ble_eq_true rfl, rfl, Nat.le_of_ble_eq_true rfl⟩ (en134 _) rfl rfl (s134) (pv134 _ _) (fun c10 => ?_) (fun c10 => ?_)
      · refine w_aloadn f126_104 rfl (by omega) ?_
        refine w_qV f126_105 (Or.inl rfl) rfl (by omega) (okd_of (by assumption)) rfl ⟨Nat.le_of_ble_eq_true rfl, rfl, Nat.le_of_ble_eq_true rfl⟩ (en138 _) (s138 v4 hd.2.2.1.2 hp hcn qs) (fun o9 ho9 => ?_)
        obtain ⟨h1, q, rfl⟩ := ho9
        have pn := q.now hp
        have qs1 : RSt h1 8 w := qs.fr (fun x y z1 z2 => pn x y (by omega) (by omega))
        have qr1 : RTr h1 r w := qr.2.2.fr (fun x y z => pn x y (by omega) (by omega))
        refine w_bok (pv138 _ _) ?_
        refine w_aloadn f126_108 rfl (by omega) ?_
        refine w_getR f126_109 (by assumption) rfl (by omega) ?_
        refine w_getR f126_112 (by assumption) rfl (by omega) ?_
        refine w_iconst (v := -1) f126_115 (by decide) ?_
        refine w_iloadn f126_116 rfl ?_
        refine w_iloadn f126_117 rfl ?_
        refine w_iloadn f126_118 rfl ?_
        refine w_cV f126_119 (Or.inl rfl) rfl (by omega) (okd_of (by assumption)) rfl ⟨Nat.le_of_ble_eq_true rfl, rfl, Nat.le_of_ble_eq_true rfl⟩ (en38 _ _ _ _ _) (s38 sh8.2.2.1 (by decide) (e44 _ qs1) ⟨v4.1, by omega⟩) (pv38 _ _) ?_
        refine w_aloadn f126_122 rfl (by omega) ?_
        refine w_getR f126_123 (by assumption) rfl (by omega) ?_
        refine w_getR f126_126 (by assumption) rfl (by omega) ?_
        refine w_getI f126_129 (by decide) (by assumption) (by exact hput_s) ?_
        refine w_iconst (v := 1) f126_132 (by decide) ?_
        refine w_isubn f126_133 (by omega) ?_
        refine w_iret f126_134 rfl ?_
        refine ⟨_, cl _ q qs1, ?_⟩
        rw [show w 4 + 1 - 1 = w 4 by omega]
      · first | exact absurd hi (by assumption) | exact absurd (show (1 : Int) ≠ 0 by decide) (by assumption)
    · first | exact absurd hi (by assumption) | exact absurd (show (1 : Int) ≠ 0 by decide) (by assumption)
  · first | exact absurd hi (by assumption) | exact absurd (show (1 : Int) ≠ 0 by decide) (by assumption)
theorem s126a {i p c : Int} (hM : RelM r d N h w) (hi : ¬ (0 ≤ i ∧ i < w 2)) : ev 126 0 [AR 1, AI i, AI p, AI c] [] (KS r d, h, R) = some (.inr 0, bump (KS r d, h, R)) := by
  refine Rn.eq ?_
  have r0 := hM.rd
  obtain ⟨⟨hr, h40⟩, ⟨hd, hx, hz⟩, hn, qr, qs, qS⟩ := hM
  have hl := shRl (r := r) (d := d) r0.1
  obtain ⟨l1, n1, n2, n3, l5, l6, a0, a1, a2, a3, a4, a5, a6, a7, a8⟩ := id hl
  have n11 := n1.1
  have n21 := n2.1
  have n31 := n3.1
  obtain ⟨l51, l52⟩ := id l5
  have k1 := @kd_1 r d
  have k8 := @kd_8 r d
  have k9 := @kd_9 r d
  have k10 := @kd_10 r d
  have k11 := @kd_11 r d
  have k12 := @kd_12 r d
  have k16 := @kd_16 r d
  have k17 := @kd_17 r d
  have k18 := @kd_18 r d
  have k19 := @kd_19 r d
  have k140 := @kd_140 r d
  have k143 := @kd_143 r d
  have e0 : h (r + 1) 2 = w 0 := qr.1.1.1
  have e1 : h (r + 14) 2 = w 1 := qr.1.2.1.1
  have e2 : h (r + 27) 2 = w 2 := qr.1.2.2.1
  have e3 : h r 5 = w 3 := qr.2.2.1
  have e4 : h 11 0 = w 4 := qs.2.1.1
  obtain ⟨v0, v1, v2, v3, v4⟩ := hd.1.1
  obtain ⟨hd1, hd2⟩ := hW_d hd.2.1
  refine w_iloadn f126_0 rfl ?_
  refine w_aloadn f126_1 rfl (by omega) ?_
  refine w_getR f126_2 (by assumption) rfl (by omega) ?_
  refine w_getR f126_5 (by assumption) rfl (by omega) ?_
  refine w_getI f126_8 (by decide) (by assumption) (by (try simp only [hput, hcopy, Nat.reduceEqDiff, Nat.add_left_cancel_iff, Nat.add_right_cancel_iff, Nat.left_eq_add, Nat.add_eq_left, Nat.right_eq_add, Nat.add_eq_right, Nat.reduceAdd, Nat.add_zero, Nat.succ_ne_self, Nat.one_ne_zero, Nat.zero_ne_one, eq_self, and_self, and_true, true_and, and_false, false_and, if_true, if_false, reduceIte, Int.reduceToNat, Int.toNat_natCast, e0, e1, e2, e3, e4]); exact rfl) ?_
  refine w_xS f126_11 (Or.inl rfl) (Nat.le_of_ble_eq_true rfl) rfl rfl ⟨Nat.le_of_ble_eq_true rfl, rfl, Nat.le_of_ble_eq_true rfl⟩ (en132 _ _) rfl rfl (s132) (pv132 _ _) (fun c1 => ?_) (fun c1 => ?_)
  · exact absurd (by assumption) hi
  · rfl
theorem s126b {i p c : Int} (hM : RelM r d N h w) (hi : 0 ≤ i ∧ i < w 2) (ho : ¬ ((0 ≤ p ∧ p ≤ 5) ∧ (0 ≤ c ∧ c ≤ 9))) : ev 126 0 [AR 1, AI i, AI p, AI c] [] (KS r d, h, R) = some (.inr 1, bump (KS r d, h, R)) := by
  refine Rn.eq ?_
  have r0 := hM.rd
  obtain ⟨⟨hr, h40⟩, ⟨hd, hx, hz⟩, hn, qr, qs, qS⟩ := hM
  have hl := shRl (r := r) (d := d) r0.1
  obtain ⟨l1, n1, n2, n3, l5, l6, a0, a1, a2, a3, a4, a5, a6, a7, a8⟩ := id hl
  have n11 := n1.1
  have n21 := n2.1
  have n31 := n3.1
  obtain ⟨l51, l52⟩ := id l5
  have k1 := @kd_1 r d
  have k8 := @kd_8 r d
  have k9 := @kd_9 r d
  have k10 := @kd_10 r d
  have k11 := @kd_11 r d
  have k12 := @kd_12 r d
  have k16 := @kd_16 r d
  have k17 := @kd_17 r d
  have k18 := @kd_18 r d
  have k19 := @kd_19 r d
  have k140 := @kd_140 r d
  have k143 := @kd_143 r d
  have e0 : h (r + 1) 2 = w 0 := qr.1.1.1
  have e1 : h (r + 14) 2 = w 1 := qr.1.2.1.1
  have e2 : h (r + 27) 2 = w 2 := qr.1.2.2.1
  have e3 : h r 5 = w 3 := qr.2.2.1
  have e4 : h 11 0 = w 4 := qs.2.1.1
  obtain ⟨v0, v1, v2, v3, v4⟩ := hd.1.1
  obtain ⟨hd1, hd2⟩ := hW_d hd.2.1
  refine w_iloadn f126_0 rfl ?_
  refine w_aloadn f126_1 rfl (by omega) ?_
  refine w_getR f126_2 (by assumption) rfl (by omega) ?_
  refine w_getR f126_5 (by assumption) rfl (by omega) ?_
  refine w_getI f126_8 (by decide) (by assumption) (by (try simp only [hput, hcopy, Nat.reduceEqDiff, Nat.add_left_cancel_iff, Nat.add_right_cancel_iff, Nat.left_eq_add, Nat.add_eq_left, Nat.right_eq_add, Nat.add_eq_right, Nat.reduceAdd, Nat.add_zero, Nat.succ_ne_self, Nat.one_ne_zero, Nat.zero_ne_one, eq_self, and_self, and_true, true_and, and_false, false_and, if_true, if_false, reduceIte, Int.reduceToNat, Int.toNat_natCast, e0, e1, e2, e3, e4]); exact rfl) ?_
  refine w_xS f126_11 (Or.inl rfl) (Nat.le_of_ble_eq_true rfl) rfl rfl ⟨Nat.le_of_ble_eq_true rfl, rfl, Nat.le_of_ble_eq_true rfl⟩ (en132 _ _) rfl rfl (s132) (pv132 _ _) (fun c1 => ?_) (fun c1 => ?_)
  · refine w_iloadn f126_14 rfl ?_
    refine w_if_lt (t := 37) f126_15 (by decide) (fun c2 => ?_) (fun c2 => ?_)
    · refine w_iconst (v := 0) f126_37 (by decide) ?_
      refine w_xS f126_38 (Or.inl rfl) (Nat.le_of_ble_eq_true rfl) rfl rfl ⟨Nat.le_of_ble_eq_true rfl, rfl, Nat.le_of_ble_eq_true rfl⟩ (en133 _) rfl rfl (s133) (pv133 _ _) (fun c3 => ?_) (fun c3 => ?_)
      · exfalso; omega
      · first | exact absurd hi (by assumption) | rfl | (exfalso; omega)
    · refine w_iloadn f126_18 rfl ?_
      refine w_iconst (v := 5) f126_19 (by decide) ?_
      refine w_ic_gt (t := 37) f126_20 (by decide) (fun c4 => ?_) (fun c4 => ?_)
      · refine w_iconst (v := 0) f126_37 (by decide) ?_
        refine w_xS f126_38 (Or.inl rfl) (Nat.le_of_ble_eq_true rfl) rfl rfl ⟨Nat.le_of_ble_eq_true rfl, rfl, Nat.le_of_ble_eq_true rfl⟩ (en133 _) rfl rfl (s133) (pv133 _ _) (fun c5 => ?_) (fun c5 => ?_)
        · exfalso; omega
        · first | exact absurd hi (by assumption) | rfl | (exfalso; omega)
      · refine w_iloadn f126_23 rfl ?_
        refine w_if_lt (t := 37) f126_24 (by decide) (fun c6 => ?_) (fun c6 => ?_)
        · refine w_iconst (v := 0) f126_37 (by decide) ?_
          refine w_xS f126_38 (Or.inl rfl) (Nat.le_of_ble_eq_true rfl) rfl rfl ⟨Nat.le_of_ble_eq_true rfl, rfl, Nat.le_of_ble_eq_true rfl⟩ (en133 _) rfl rfl (s133) (pv133 _ _) (fun c7 => ?_) (fun c7 => ?_)
          · exfalso; omega
          · first | exact absurd hi (by assumption) | rfl | (exfalso; omega)
        · refine w_iloadn f126_27 rfl ?_
          refine w_bipush (v := 9) f126_28 (by decide) ?_
          refine w_ic_gt (t := 37) f126_30 (by decide) (fun c8 => ?_) (fun c8 => ?_)
          · refine w_iconst (v := 0) f126_37 (by decide) ?_
            refine w_xS f126_38 (Or.inl rfl) (Nat.le_of_ble_eq_true rfl) rfl rfl ⟨Nat.le_of_ble_eq_true rfl, rfl, Nat.le_of_ble_eq_true rfl⟩ (en133 _) rfl rfl (s133) (pv133 _ _) (fun c9 => ?_) (fun c9 => ?_)
            · exfalso; omega
            · first | exact absurd hi (by assumption) | rfl | (exfalso; omega)
          · refine w_iconst (v := 1) f126_33 (by decide) ?_
            refine w_goto (t := 38) f126_34 (by decide) ?_
            refine w_xS f126_38 (Or.inl rfl) (Nat.le_of_ble_eq_true rfl) rfl rfl ⟨Nat.le_of_ble_eq_true rfl, rfl, Nat.le_of_ble_eq_true rfl⟩ (en133 _) rfl rfl (s133) (pv133 _ _) (fun c10 => ?_) (fun c10 => ?_)
            · exfalso; omega
            · first | exact absurd hi (by assumption) | rfl | (exfalso; omega)
  · first | exact absurd hi (by assumption) | rfl | (exfalso; omega)
theorem s126c {i p c : Int} (hM : RelM r d N h w) (hi : 0 ≤ i ∧ i < w 2) (ho : (0 ≤ p ∧ p ≤ 5) ∧ (0 ≤ c ∧ c ≤ 9)) (hm : ¬ mkpB w i p c = true) : ev 126 0 [AR 1, AI i, AI p, AI c] [] (KS r d, h, R) = some (.inr 2, bump (KS r d, h, R)) := by
  refine Rn.eq ?_
  have r0 := hM.rd
  obtain ⟨⟨hr, h40⟩, ⟨hd, hx, hz⟩, hn, qr, qs, qS⟩ := hM
  have hl := shRl (r := r) (d := d) r0.1
  obtain ⟨l1, n1, n2, n3, l5, l6, a0, a1, a2, a3, a4, a5, a6, a7, a8⟩ := id hl
  have n11 := n1.1
  have n21 := n2.1
  have n31 := n3.1
  obtain ⟨l51, l52⟩ := id l5
  have k1 := @kd_1 r d
  have k8 := @kd_8 r d
  have k9 := @kd_9 r d
  have k10 := @kd_10 r d
  have k11 := @kd_11 r d
  have k12 := @kd_12 r d
  have k16 := @kd_16 r d
  have k17 := @kd_17 r d
  have k18 := @kd_18 r d
  have k19 := @kd_19 r d
  have k140 := @kd_140 r d
  have k143 := @kd_143 r d
  have e0 : h (r + 1) 2 = w 0 := qr.1.1.1
  have e1 : h (r + 14) 2 = w 1 := qr.1.2.1.1
  have e2 : h (r + 27) 2 = w 2 := qr.1.2.2.1
  have e3 : h r 5 = w 3 := qr.2.2.1
  have e4 : h 11 0 = w 4 := qs.2.1.1
  obtain ⟨v0, v1, v2, v3, v4⟩ := hd.1.1
  obtain ⟨hd1, hd2⟩ := hW_d hd.2.1
  unfold mkpB at hm
  simp only [Bool.and_eq_true, decide_eq_true_eq] at hm
  have wi := hd.1.2.1
  obtain ⟨-, y0, y1, y2, -⟩ := stW_v (wi 0 (by decide) (by decide)) (wi 1 (by decide) (by decide)) (wi 2 (by decide) (by decide))
  have z9 : h (r + 41) i.toNat = w (9 + i).toNat := by
    refine (qr.2.1.v (i := i) ⟨hi.1, by omega⟩).trans ?_
    rcases (show i = 0 ∨ i = 1 ∨ i = 2 by omega) with rfl | rfl | rfl
    · exact y0
    · exact y1
    · exact y2
  have z6 : h 10 i.toNat = w (6 + i).toNat := (qs.1.v ⟨hi.1, by omega⟩).trans (hd2 i hi.1 (by omega))
  have w1 := s136 (σ := (KS r d, h, R)) (v := w (6 + i).toNat) (op := p) (c := c)
  have w2 := s136 (σ := (KS r d, h, R)) (v := w (9 + i).toNat) (op := p) (c := c)
  refine w_iloadn f126_0 rfl ?_
  refine w_aloadn f126_1 rfl (by omega) ?_
  refine w_getR f126_2 (by assumption) rfl (by omega) ?_
  refine w_getR f126_5 (by assumption) rfl (by omega) ?_
  refine w_getI f126_8 (by decide) (by assumption) (by (try simp only [hput, hcopy, Nat.reduceEqDiff, Nat.add_left_cancel_iff, Nat.add_right_cancel_iff, Nat.left_eq_add, Nat.add_eq_left, Nat.right_eq_add, Nat.add_eq_right, Nat.reduceAdd, Nat.add_zero, Nat.succ_ne_self, Nat.one_ne_zero, Nat.zero_ne_one, eq_self, and_self, and_true, true_and, and_false, false_and, if_true, if_false, reduceIte, Int.reduceToNat, Int.toNat_natCast, e0, e1, e2, e3, e4]); exact rfl) ?_
  refine w_xS f126_11 (Or.inl rfl) (Nat.le_of_ble_eq_true rfl) rfl rfl ⟨Nat.le_of_ble_eq_true rfl, rfl, Nat.le_of_ble_eq_true rfl⟩ (en132 _ _) rfl rfl (s132) (pv132 _ _) (fun c1 => ?_) (fun c1 => ?_)
  · refine w_iloadn f126_14 rfl ?_
    refine w_if_lt (t := 37) f126_15 (by decide) (fun c2 => by omega) (fun c2 => ?_)
    refine w_iloadn f126_18 rfl ?_
    refine w_iconst (v := 5) f126_19 (by decide) ?_
    refine w_ic_gt (t := 37) f126_20 (by decide) (fun c3 => by omega) (fun c3 => ?_)
    refine w_iloadn f126_23 rfl ?_
    refine w_if_lt (t := 37) f126_24 (by decide) (fun c4 => by omega) (fun c4 => ?_)
    refine w_iloadn f126_27 rfl ?_
    refine w_bipush (v := 9) f126_28 (by decide) ?_
    refine w_ic_gt (t := 37) f126_30 (by decide) (fun c5 => by omega) (fun c5 => ?_)
    refine w_iconst (v := 1) f126_33 (by decide) ?_
    refine w_goto (t := 38) f126_34 (by decide) ?_
    refine w_xS f126_38 (Or.inl rfl) (Nat.le_of_ble_eq_true rfl) rfl rfl ⟨Nat.le_of_ble_eq_true rfl, rfl, Nat.le_of_ble_eq_true rfl⟩ (en133 _) rfl rfl (s133) (pv133 _ _) (fun c6 => ?_) (fun c6 => ?_)
    · refine w_aloadn f126_41 rfl (by omega) ?_
      refine w_getR f126_42 (by assumption) rfl (by omega) ?_
      refine w_getR f126_45 (by assumption) rfl (by omega) ?_
      refine w_getI f126_48 (by decide) (by assumption) (by (try simp only [hput, hcopy, Nat.reduceEqDiff, Nat.add_left_cancel_iff, Nat.add_right_cancel_iff, Nat.left_eq_add, Nat.add_eq_left, Nat.right_eq_add, Nat.add_eq_right, Nat.reduceAdd, Nat.add_zero, Nat.succ_ne_self, Nat.one_ne_zero, Nat.zero_ne_one, eq_self, and_self, and_true, true_and, and_false, false_and, if_true, if_false, reduceIte, Int.reduceToNat, Int.toNat_natCast, e0, e1, e2, e3, e4]); exact rfl) ?_
      refine w_bipush (v := 12) f126_51 (by decide) ?_
      refine w_ic_ge (t := 100) f126_53 (by decide) (fun c7 => ?_) (fun c7 => ?_)
      · refine w_iconst (v := 0) f126_100 (by decide) ?_
        refine w_xS f126_101 (Or.inl rfl) (Nat.le_of_ble_eq_true rfl) rfl rfl ⟨Nat.le_of_ble_eq_true rfl, rfl, Nat.le_of_ble_eq_true rfl⟩ (en134 _) rfl rfl (s134) (pv134 _ _) (fun c8 => ?_) (fun c8 => ?_)
        · first | exact absurd rfl (show (0 : Int) ≠ 0 by assumption) | (exfalso; exact hm ⟨⟨by omega, by assumption⟩, by assumption⟩)
        · first | exact absurd hi (by assumption) | rfl | exact absurd (show (1 : Int) ≠ 0 by decide) (by assumption)
      · refine w_aloadn f126_56 rfl (by omega) ?_
        refine w_getR f126_57 (by assumption) rfl (by omega) ?_
        refine w_getR f126_60 (by assumption) rfl (by omega) ?_
        refine w_getR f126_63 (by assumption) rfl (by omega) ?_
        refine w_iloadn f126_66 rfl ?_
        refine w_iald f126_67 (by assumption) (by omega) (by exact z6) ?_
        refine w_iloadn f126_68 rfl ?_
        refine w_iloadn f126_69 rfl ?_
        refine w_cS f126_70 (Or.inl rfl) (Nat.le_of_ble_eq_true rfl) rfl rfl ⟨Nat.le_of_ble_eq_true rfl, rfl, Nat.le_of_ble_eq_true rfl⟩ (en136 _ _ _) (w1) (pv136 _ _) ?_
        refine w_ifb_eq (t := 100) f126_73 (by decide) (fun c9 => ?_) (fun c9 => ?_)
        · refine w_iconst (v := 0) f126_100 (by decide) ?_
          refine w_xS f126_101 (Or.inl rfl) (Nat.le_of_ble_eq_true rfl) rfl rfl ⟨Nat.le_of_ble_eq_true rfl, rfl, Nat.le_of_ble_eq_true rfl⟩ (en134 _) rfl rfl (s134) (pv134 _ _) (fun c10 => ?_) (fun c10 => ?_)
          · first | exact absurd rfl (show (0 : Int) ≠ 0 by assumption) | (exfalso; exact hm ⟨⟨by omega, by assumption⟩, by assumption⟩)
          · first | exact absurd hi (by assumption) | rfl | exact absurd (show (1 : Int) ≠ 0 by decide) (by assumption)
        · refine w_aloadn f126_76 rfl (by omega) ?_
          refine w_getR f126_77 (by assumption) rfl (by omega) ?_
          refine w_getR f126_80 (by assumption) rfl (by omega) ?_
          refine w_getR f126_83 (by assumption) rfl (by omega) ?_
          refine w_iloadn f126_86 rfl ?_
          refine w_iald f126_87 (by assumption) (by omega) (by exact z9) ?_
          refine w_iloadn f126_88 rfl ?_
          refine w_iloadn f126_89 rfl ?_
          refine w_cS f126_90 (Or.inl rfl) (Nat.le_of_ble_eq_true rfl) rfl rfl ⟨Nat.le_of_ble_eq_true rfl, rfl, Nat.le_of_ble_eq_true rfl⟩ (en136 _ _ _) (w2) (pv136 _ _) ?_
          refine w_ifb_eq (t := 100) f126_93 (by decide) (fun c11 => ?_) (fun c11 => ?_)
          · refine w_iconst (v := 0) f126_100 (by decide) ?_
            refine w_xS f126_101 (Or.inl rfl) (Nat.le_of_ble_eq_true rfl) rfl rfl ⟨Nat.le_of_ble_eq_true rfl, rfl, Nat.le_of_ble_eq_true rfl⟩ (en134 _) rfl rfl (s134) (pv134 _ _) (fun c12 => ?_) (fun c12 => ?_)
            · first | exact absurd rfl (show (0 : Int) ≠ 0 by assumption) | (exfalso; exact hm ⟨⟨by omega, by assumption⟩, by assumption⟩)
            · first | exact absurd hi (by assumption) | rfl | exact absurd (show (1 : Int) ≠ 0 by decide) (by assumption)
          · refine w_iconst (v := 1) f126_96 (by decide) ?_
            refine w_goto (t := 101) f126_97 (by decide) ?_
            refine w_xS f126_101 (Or.inl rfl) (Nat.le_of_ble_eq_true rfl) rfl rfl ⟨Nat.le_of_ble_eq_true rfl, rfl, Nat.le_of_ble_eq_true rfl⟩ (en134 _) rfl rfl (s134) (pv134 _ _) (fun c13 => ?_) (fun c13 => ?_)
            · first | exact absurd rfl (show (0 : Int) ≠ 0 by assumption) | (exfalso; exact hm ⟨⟨by omega, by assumption⟩, by assumption⟩)
            · first | exact absurd hi (by assumption) | rfl | exact absurd (show (1 : Int) ≠ 0 by decide) (by assumption)
    · first | exact absurd hi (by assumption) | rfl | exact absurd (show (1 : Int) ≠ 0 by decide) (by assumption)
  · first | exact absurd hi (by assumption) | rfl | exact absurd (show (1 : Int) ≠ 0 by decide) (by assumption)
end A

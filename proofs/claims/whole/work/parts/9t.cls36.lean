/-! the class: a statement is executed; texts -/
section A
variable {K : List AKd} {h : Nat → Nat → Int} {R : R4} {σ : Sg} {r d : Nat} {w : Nat → Int} {b : Nat → Int} {n : Int}
/-- only the machine now and the step have changed -/
def NwO (h h1 : Nat → Nat → Int) : Prop := ∀ x y, (x < 8 ∨ 21 ≤ x) → (x < 140 ∨ 143 ≤ x) → h1 x y = h x y
theorem NwO.rf : NwO h h := fun _ _ _ _ => rfl
theorem NwO.tr {h1 h2 : Nat → Nat → Int} (p : NwO h h1) (q : NwO h1 h2) : NwO h h2 := fun x y z z2 => (q x y z z2).trans (p x y z z2)
theorem s142 {N : Int} (hr : RD2 r) (hd : WFd w N) (qc : RCf h (r + 40) (startW w)) (q : RSt h 8 w) : Rn (ev 142 0 [AR 1] [] (KS r d, h, R)) (fun o => ∃ h1, (NwO h h1 ∧ RSt h1 8 (g2sW w)) ∧ o = (.inl AU, (KS r d, h1, R))) := by
  have k1 := @kd_1 r d
  have k8 := @kd_8 r d
  have k9 := @kd_9 r d
  have k16 := @kd_16 r d
  obtain ⟨l1, -, -, -, l5, -⟩ := shRl (r := r) (d := d) hr
  have r0 : 156 ≤ r := by unfold RD2 at hr; omega
  obtain ⟨hW, hc, d1, d2, d3, d4⟩ := hd
  obtain ⟨q1, q2, q3⟩ := q
  have l51 := l5.1
  have eo : ∀ y : Nat, ¬ (5 ≤ y ∧ y ≤ 8) → y ≠ 18 → g2sW w y = w y := fun y y1 y2 => g2sW_o ⟨y1, y2⟩
  have e18 : g2sW w 18 = 0 := rfl
  have fin : ∀ h2, Ot 9 2 h h2 → RCf h2 9 (startW w) → NwO h (hput h2 16 6 0) ∧ RSt (hput h2 16 6 0) 8 (g2sW w) := fun h2 o1 c1 => by
    refine ⟨fun x y x1 x2 => (hput_k (by omega)).trans (o1 x y (by omega)), ?_, ?_, ?_⟩
    · rw [hW_g2 hW]
      exact c1.fr (fun x y z1 z2 => hput_k (by omega))
    · exact ((q2.ot o1 (by decide)).fr (fun x y z1 z2 => hput_k (by omega))).ag hW.1.2.2.2.2 (eo 4 (by omega) (by omega)) (fun y y1 y2 => eo y (by omega) (by omega))
    · obtain ⟨⟨a1, a2, a3⟩, a4, a5, ⟨a6, a7⟩, a8⟩ := q3.ot o1 (by decide)
      exact ⟨⟨(hput_j (by decide)).trans (a1.trans (eo 12 (by omega) (by omega)).symm), (hput_j (by decide)).trans (a2.trans (eo 17 (by omega) (by omega)).symm), hput_s.trans e18.symm⟩, fun t ht => (hput_k (by omega)).trans ((a4 t ht).trans (eo _ (by omega) (by omega)).symm), fun t ht => (hput_k (by omega)).trans ((a5 t ht).trans (eo _ (by omega) (by omega)).symm), ⟨(hput_k (by omega)).trans a6, fun t t1 t2 => (hput_k (by omega)).trans ((a7 t t1 t2).trans (eo _ (by omega) (by omega)).symm)⟩, fun t ht => absurd (show (t : Int) < 0 from ht) (by omega)⟩
  refine w_aloadn f142_0 rfl (by omega) ?_
  refine w_getR f142_1 (by assumption) rfl (by omega) ?_
  refine w_getR f142_4 (by assumption) rfl (by omega) ?_
  refine w_aloadn f142_7 rfl (by omega) ?_
  refine w_getR f142_8 (by assumption) rfl (by omega) ?_
  refine w_getR f142_11 (by assumption) rfl (by omega) ?_
  refine w_qV f142_14 (Or.inl rfl) rfl (by omega) (okd_of (by assumption)) rfl ⟨Nat.le_of_ble_eq_true rfl, rfl, Nat.le_of_ble_eq_true rfl⟩ (en1 _ _) (s1 sh8.2.1 l5 (by decide) (by omega) (by omega) qc) (fun o9 ho9 => ?_)
  obtain ⟨h2, ⟨o1, c1⟩, rfl⟩ := ho9
  refine w_bok (pv1 _ _) ?_
  refine w_aloadn f142_17 rfl (by omega) ?_
  refine w_getR f142_18 (by assumption) rfl (by omega) ?_
  refine w_getR f142_21 (by assumption) rfl (by omega) ?_
  refine w_iconst (v := 0) f142_24 (by decide) ?_
  refine w_putI f142_25 (by assumption) ?_
  refine w_ret f142_28 rfl ?_
  exact ⟨_, fin _ o1 c1, rfl⟩
theorem RSt.set {N i v : Int} (hd : WFd w N) (q : RSt h 8 w) (hi : 0 ≤ i ∧ i < 3) (hv : 0 ≤ v ∧ v ≤ 9) : RSt (hput h 10 i.toNat v) 8 (udI w (6 + i).toNat v) := by
  obtain ⟨hW, hc, d1, d2, d3, d4⟩ := hd
  obtain ⟨q1, q2, q3⟩ := q
  have eo : ∀ y : Nat, ¬ (6 ≤ y ∧ y ≤ 8) → udI w (6 + i).toNat v y = w y := fun y y1 => if_neg (by omega)
  refine ⟨?_, ?_, ?_⟩
  · rw [hW_set hc hi hv]
    exact q1.put hi hv
  · exact (q2.fr (fun x y z1 z2 => hput_k (by omega))).ag hW.1.2.2.2.2 (eo 4 (by omega)) (fun y y1 y2 => eo y (by omega))
  · exact (q3.fr (fun x y z1 z2 => hput_k (by omega))).ag d1.2 (fun y hy => eo y (by omega))
def ExQ (r d : Nat) (R : R4) (h : Nat → Nat → Int) (p : Int × (Nat → Int)) : Out → Prop := fun o => ∃ h1, (NwO h h1 ∧ RSt h1 8 p.2) ∧ o = (.inl (AI p.1), (KS r d, h1, R))
theorem l143_1 {N a x : Int} {k : Nat} (hr : RD2 r) (hd : WFd w N) (qr : RTr h r w) (q : RSt h 8 w) (hk : k < 30) (e5 : h 5 k = x) (hx : x = 0) (e6 : h 6 k = a) : Rn (ev 143 0 [AR 1, AI k, AU] [] (KS r d, h, R)) (ExQ r d R h (1, firW w a)) := by
  have k1 := @kd_1 r d
  have k4 := @kd_4 r d
  have k5 := @kd_5 r d
  have k6 := @kd_6 r d
  refine w_aloadn f143_0 rfl (by omega) ?_
  refine w_getR f143_1 (by assumption) rfl (by omega) ?_
  refine w_getR f143_4 (by assumption) rfl (by omega) ?_
  refine w_iloadn f143_7 rfl ?_
  refine w_iald f143_8 (by assumption) (by omega) (by exact e6) ?_
  refine w_istoren f143_9 (Nat.le_of_ble_eq_true rfl) (sto_3_2 rfl) ?_
  refine w_aloadn f143_10 rfl (by omega) ?_
  refine w_getR f143_11 (by assumption) rfl (by omega) ?_
  refine w_getR f143_14 (by assumption) rfl (by omega) ?_
  refine w_iloadn f143_17 rfl ?_
  refine w_iald f143_18 (by assumption) (by omega) (by exact e5) ?_
  refine w_tab (t := 44) f143_19 (by rw [hx]; decide) (by rw [hx]; rfl) (by decide) ?_
  refine w_aloadn f143_44 rfl (by omega) ?_
  refine w_iloadn f143_45 rfl ?_
  refine w_qV f143_46 (Or.inl rfl) rfl (by omega) (okd_of (by assumption)) rfl ⟨Nat.le_of_ble_eq_true rfl, rfl, Nat.le_of_ble_eq_true rfl⟩ (en140 _ _) (s140 hr hd qr q) (fun o9 ho9 => ?_)
  obtain ⟨h2, ⟨o1, c1⟩, rfl⟩ := ho9
  refine w_bok (pv140 _ _) ?_
  refine w_pop f143_49 rfl ?_
  refine w_iconst (v := 1) f143_50 (by decide) ?_
  refine w_zret f143_51 rfl (by decide) ?_
  exact ⟨h2, ⟨o1, c1⟩, rfl⟩
theorem l143_2 {N a c x : Int} {k : Nat} (hd : WFd w N) (q : RSt h 8 w) (hk : k < 30) (e5 : h 5 k = x) (hx : x = 1) (e6 : h 6 k = a) (e7 : h 7 k = c) (ha : 0 ≤ a ∧ a ≤ 2) (hc : 0 ≤ c ∧ c ≤ 9) : Rn (ev 143 0 [AR 1, AI k, AU] [] (KS r d, h, R)) (ExQ r d R h (if fb w (withV (hereW w) a c) = -1 then (1, udI w (6 + a).toNat c) else (0, w))) := by
  have k1 := @kd_1 r d
  have k4 := @kd_4 r d
  have k5 := @kd_5 r d
  have k6 := @kd_6 r d
  have k7 := @kd_7 r d
  have k8 := @kd_8 r d
  have k9 := @kd_9 r d
  have k10 := @kd_10 r d
  refine w_aloadn f143_0 rfl (by omega) ?_
  refine w_getR f143_1 (by assumption) rfl (by omega) ?_
  refine w_getR f143_4 (by assumption) rfl (by omega) ?_
  refine w_iloadn f143_7 rfl ?_
  refine w_iald f143_8 (by assumption) (by omega) (by exact e6) ?_
  refine w_istoren f143_9 (Nat.le_of_ble_eq_true rfl) (sto_3_2 rfl) ?_
  refine w_aloadn f143_10 rfl (by omega) ?_
  refine w_getR f143_11 (by assumption) rfl (by omega) ?_
  refine w_getR f143_14 (by assumption) rfl (by omega) ?_
  refine w_iloadn f143_17 rfl ?_
  refine w_iald f143_18 (by assumption) (by omega) (by exact e5) ?_
  refine w_tab (t := 52) f143_19 (by rw [hx]; decide) (by rw [hx]; rfl) (by decide) ?_
  refine w_aloadn f143_52 rfl (by omega) ?_
  refine w_iloadn f143_53 rfl ?_
  refine w_aloadn f143_54 rfl (by omega) ?_
  refine w_getR f143_55 (by assumption) rfl (by omega) ?_
  refine w_getR f143_58 (by assumption) rfl (by omega) ?_
  refine w_iloadn f143_61 rfl ?_
  refine w_iald f143_62 (by assumption) (by omega) (by exact e7) ?_
  refine w_qV f143_63 (Or.inl rfl) rfl (by omega) (okd_of (by assumption)) rfl ⟨Nat.le_of_ble_eq_true rfl, rfl, Nat.le_of_ble_eq_true rfl⟩ (en141 _ _ _) (s141 hd q ⟨ha.1, by omega⟩ hc) (fun o9 ho9 => ?_)
  obtain ⟨h2, o1, rfl⟩ := ho9
  refine w_bok (pv141 _ _) ?_
  refine w_ifb_ne (t := 71) f143_66 (by decide) (fun c2 => ?_) (fun c2 => ?_)
  · refine w_aloadn f143_71 rfl (by omega) ?_
    refine w_getR f143_72 (by assumption) rfl (by omega) ?_
    refine w_getR f143_75 (by assumption) rfl (by omega) ?_
    refine w_getR f143_78 (by assumption) rfl (by omega) ?_
    refine w_iloadn f143_81 rfl ?_
    refine w_aloadn f143_82 rfl (by omega) ?_
    refine w_getR f143_83 (by assumption) rfl (by omega) ?_
    refine w_getR f143_86 (by assumption) rfl (by omega) ?_
    refine w_iloadn f143_89 rfl ?_
    refine w_iald f143_90 (by assumption) (by omega) (by exact (o1 _ _ (by omega)).trans e7) ?_
    refine w_iast f143_91 (by assumption) (by omega) ?_
    refine w_iconst (v := 1) f143_92 (by decide) ?_
    refine w_zret f143_93 rfl (by decide) ?_
    first | (rw [if_pos (by assumption)]; exact ⟨_, ⟨fun x y x1 x2 => (hput_k (by omega)).trans (o1 x y (by omega)), (q.fr (fun x y z1 z2 => o1 x y (by omega))).set hd ⟨ha.1, by omega⟩ hc⟩, rfl⟩) | (rw [if_neg (by assumption)]; exact ⟨h2, ⟨fun x y x1 x2 => o1 x y (by omega), q.fr (fun x y z1 z2 => o1 x y (by omega))⟩, rfl⟩)
  · refine w_iconst (v := 0) f143_69 (by decide) ?_
    refine w_zret f143_70 rfl (by decide) ?_
    first | (rw [if_pos (by assumption)]; exact ⟨_, ⟨fun x y x1 x2 => (hput_k (by omega)).trans (o1 x y (by omega)), (q.fr (fun x y z1 z2 => o1 x y (by omega))).set hd ⟨ha.1, by omega⟩ hc⟩, rfl⟩) | (rw [if_neg (by assumption)]; exact ⟨h2, ⟨fun x y x1 x2 => o1 x y (by omega), q.fr (fun x y z1 z2 => o1 x y (by omega))⟩, rfl⟩)
theorem l143_3 {N a x : Int} {k : Nat} (hr : RD2 r) (hd : WFd w N) (qc : RCf h (r + 40) (startW w)) (q : RSt h 8 w) (hk : k < 30) (e5 : h 5 k = x) (hx : x = 2) : Rn (ev 143 0 [AR 1, AI k, AU] [] (KS r d, h, R)) (ExQ r d R h (1, g2sW w)) := by
  have k1 := @kd_1 r d
  have k4 := @kd_4 r d
  have k5 := @kd_5 r d
  have k6 := @kd_6 r d
  refine w_aloadn f143_0 rfl (by omega) ?_
  refine w_getR f143_1 (by assumption) rfl (by omega) ?_
  refine w_getR f143_4 (by assumption) rfl (by omega) ?_
  refine w_iloadn f143_7 rfl ?_
  refine w_iald f143_8 (by assumption) (by omega) (by (try simp only [hput, hcopy, Nat.reduceEqDiff, Nat.add_left_cancel_iff, Nat.add_right_cancel_iff, Nat.left_eq_add, Nat.add_eq_left, Nat.right_eq_add, Nat.add_eq_right, Nat.reduceAdd, Nat.add_zero, Nat.succ_ne_self, Nat.one_ne_zero, Nat.zero_ne_one, eq_self, and_self, and_true, true_and, and_false, false_and, if_true, if_false, reduceIte, Int.reduceToNat, Int.toNat_natCast]); exact rfl) ?_
  refine w_istoren f143_9 (Nat.le_of_ble_eq_true rfl) (sto_3_2 rfl) ?_
  refine w_aloadn f143_10 rfl (by omega) ?_
  refine w_getR f143_11 (by assumption) rfl (by omega) ?_
  refine w_getR f143_14 (by assumption) rfl (by omega) ?_
  refine w_iloadn f143_17 rfl ?_
  refine w_iald f143_18 (by assumption) (by omega) (by exact e5) ?_
  refine w_tab (t := 94) f143_19 (by rw [hx]; decide) (by rw [hx]; rfl) (by decide) ?_
  refine w_aloadn f143_94 rfl (by omega) ?_
  refine w_qV f143_95 (Or.inl rfl) rfl (by omega) (okd_of (by assumption)) rfl ⟨Nat.le_of_ble_eq_true rfl, rfl, Nat.le_of_ble_eq_true rfl⟩ (en142 _) (s142 hr hd qc q) (fun o9 ho9 => ?_)
  obtain ⟨h2, ⟨o1, c1⟩, rfl⟩ := ho9
  refine w_bok (pv142 _ _) ?_
  refine w_iconst (v := 1) f143_98 (by decide) ?_
  refine w_zret f143_99 rfl (by decide) ?_
  exact ⟨h2, ⟨o1, c1⟩, rfl⟩
theorem RSt.clr {N : Int} {h2 : Nat → Nat → Int} (hd : WFd w N) (q : RSt h 8 w) (o1 : Ot 16 5 h h2) (c1 : BCv h2 16 (w 5)) : NwO h h2 ∧ RSt h2 8 (clrW w) := by
  obtain ⟨hW, hc, d1, d2, d3, d4⟩ := hd
  obtain ⟨q1, q2, q3⟩ := q
  have eo : ∀ y : Nat, ¬ (12 ≤ y ∧ y ≤ 18) → ¬ (59 ≤ y ∧ y ≤ 92) → clrW w y = w y := fun y y1 y2 => clrW_o hc.1 ⟨y1, y2⟩
  refine ⟨fun x y x1 x2 => o1 x y (by omega), ?_, ?_, clr_B hc c1⟩
  · rw [hW_ag (eo 5 (by omega) (by omega)) (eo 6 (by omega) (by omega)) (eo 7 (by omega) (by omega)) (eo 8 (by omega) (by omega))]
    exact q1.ot o1 (by decide)
  · exact (q2.ot o1 (by decide)).ag hW.1.2.2.2.2 (eo 4 (by omega) (by omega)) (fun y y1 y2 => eo y (by omega) (by omega))
theorem l143_4 {N x : Int} {k : Nat} (hd : WFd w N) (q : RSt h 8 w) (hk : k < 30) (e5 : h 5 k = x) (hx : x = 3) : Rn (ev 143 0 [AR 1, AI k, AU] [] (KS r d, h, R)) (ExQ r d R h (1, clrW w)) := by
  have k1 := @kd_1 r d
  have k4 := @kd_4 r d
  have k5 := @kd_5 r d
  have k6 := @kd_6 r d
  have k8 := @kd_8 r d
  have k9 := @kd_9 r d
  have k16 := @kd_16 r d
  have hc := hd.2.1
  have e9 : h 9 0 = w 5 := q.1.1.trans (hW_d hc).1
  have h5 := hc.1
  refine w_aloadn f143_0 rfl (by omega) ?_
  refine w_getR f143_1 (by assumption) rfl (by omega) ?_
  refine w_getR f143_4 (by assumption) rfl (by omega) ?_
  refine w_iloadn f143_7 rfl ?_
  refine w_iald f143_8 (by assumption) (by omega) (by (try simp only [hput, hcopy, Nat.reduceEqDiff, Nat.add_left_cancel_iff, Nat.add_right_cancel_iff, Nat.left_eq_add, Nat.add_eq_left, Nat.right_eq_add, Nat.add_eq_right, Nat.reduceAdd, Nat.add_zero, Nat.succ_ne_self, Nat.one_ne_zero, Nat.zero_ne_one, eq_self, and_self, and_true, true_and, and_false, false_and, if_true, if_false, reduceIte, Int.reduceToNat, Int.toNat_natCast]); exact rfl) ?_
  refine w_istoren f143_9 (Nat.le_of_ble_eq_true rfl) (sto_3_2 rfl) ?_
  refine w_aloadn f143_10 rfl (by omega) ?_
  refine w_getR f143_11 (by assumption) rfl (by omega) ?_
  refine w_getR f143_14 (by assumption) rfl (by omega) ?_
  refine w_iloadn f143_17 rfl ?_
  refine w_iald f143_18 (by assumption) (by omega) (by exact e5) ?_
  refine w_tabd (t := 100) f143_19 (by omega) (by decide) ?_
  refine w_aloadn f143_100 rfl (by omega) ?_
  refine w_getR f143_101 (by assumption) rfl (by omega) ?_
  refine w_getR f143_104 (by assumption) rfl (by omega) ?_
  refine w_aloadn f143_107 rfl (by omega) ?_
  refine w_getR f143_108 (by assumption) rfl (by omega) ?_
  refine w_getR f143_111 (by assumption) rfl (by omega) ?_
  refine w_getI f143_114 (by decide) (by assumption) (by exact e9) ?_
  refine w_qV f143_117 (Or.inl rfl) rfl (by omega) (okd_of (by assumption)) rfl ⟨Nat.le_of_ble_eq_true rfl, rfl, Nat.le_of_ble_eq_true rfl⟩ (en5 _ _) (s5 sh8.2.2.2 (by decide) ⟨h5.1, by omega⟩) (fun o9 ho9 => ?_)
  obtain ⟨h2, ⟨o1, c1⟩, rfl⟩ := ho9
  refine w_bok (pv5 _ _) ?_
  refine w_iconst (v := 1) f143_120 (by decide) ?_
  refine w_zret f143_121 rfl (by decide) ?_
  exact ⟨h2, RSt.clr hd q o1 c1, rfl⟩
theorem s143 {N : Int} {L : SL} {k : Nat} (hr : RD2 r) (hd : WFd w N) (qr : CRl h r w) (q : RSt h 8 w) (hL : SLc h L) (hk : (k : Int) < L.2.2.2) (h30 : L.2.2.2 ≤ 30) (hs : SLk L) : Rn (ev 143 0 [AR 1, AI k, AU] [] (KS r d, h, R)) (ExQ r d R h (doW w (L.1 k) (L.2.1 k) (L.2.2.1 k))) := by
  obtain ⟨⟨a1, a2⟩, a3, a4⟩ := hL.2 k hk
  rcases (show L.1 k = 1 ∨ L.1 k = 2 ∨ L.1 k = 3 ∨ L.1 k = 4 by omega) with z | z | z | z
  · rw [doW1 z]
    exact l143_1 hr hd qr.2.2 q (by omega) a1 (by omega) (a3 (by omega))
  · obtain ⟨s1, s2⟩ := hs k hk z
    have y := l143_2 (R := R) (r := r) (d := d) hd q (by omega) a1 (by omega) (a3 (by omega)) (a4 z) s1 s2
    by_cases z1 : fb w (withV (hereW w) (L.2.1 k) (L.2.2.1 k)) = -1
    · rw [doW2 z z1]
      rw [if_pos z1] at y
      exact y
    · rw [doW2f z z1]
      rw [if_neg z1] at y
      exact y
  · rw [doW3 z]
    exact l143_3 (a := 0) hr hd qr.2.1 q (by omega) a1 (by omega)
  · rw [doW4 (by omega)]
    exact l143_4 hd q (by omega) a1 (by omega)
/-- the class's text has become this -/
def Txc (h : Nat → Nat → Int) (b : Nat → Int) (n : Int) (h1 : Nat → Nat → Int) : Prop := (h1 3 = b ∧ h1 2 1 = n) ∧ ∀ x y, x ≠ 3 → ¬ (x = 2 ∧ y = 1) → h1 x y = h x y
theorem Txc.put {h0 : Nat → Nat → Int} {v : Int} (q : Txc h0 b n h) : Txc h0 (udI b n.toNat v) (n + 1) (hput (hput h 3 n.toNat v) 2 1 (n + 1)) := by
  obtain ⟨⟨a1, a2⟩, a3⟩ := q
  refine ⟨⟨funext fun y => ?_, hput_s⟩, fun x y n1 n2 => (if_neg n2).trans ((if_neg (fun z => n1 z.1)).trans (a3 x y n1 n2))⟩
  refine (hput_k (by decide)).trans ?_
  unfold udI hput
  rw [a1]
  by_cases e : y = n.toNat
  · rw [if_pos e, if_pos ⟨rfl, e⟩]
  · rw [if_neg e, if_neg (fun z => e z.2)]
theorem s20 {h0 : Nat → Nat → Int} {v : Int} (q : Txc h0 b n h) (hn : 0 ≤ n ∧ n < 700) : Rn (ev 20 0 [AR 2, AI v] [] (KS r d, h, R)) (fun o => ∃ h1, Txc h0 (udI b n.toNat v) (n + 1) h1 ∧ o = (.inl AU, (KS r d, h1, R))) := by
  have k2 := @kd_2 r d
  have k3 := @kd_3 r d
  have e := q.1.2
  refine w_aloadn f20_0 rfl (by omega) ?_
  refine w_getI f20_1 (by decide) (by assumption) (by (try simp only [hput, hcopy, Nat.reduceEqDiff, Nat.add_left_cancel_iff, Nat.add_right_cancel_iff, Nat.left_eq_add, Nat.add_eq_left, Nat.right_eq_add, Nat.add_eq_right, Nat.reduceAdd, Nat.add_zero, Nat.succ_ne_self, Nat.one_ne_zero, Nat.zero_ne_one, eq_self, and_self, and_true, true_and, and_false, false_and, if_true, if_false, reduceIte, Int.reduceToNat, Int.toNat_natCast, e]); exact rfl) ?_
  refine w_sipush (v := 700) f20_4 (by decide) ?_
  refine w_ic_ge (t := 30) f20_7 (by decide) (fun c1 => by omega) (fun c1 => ?_)
  refine w_aloadn f20_10 rfl (by omega) ?_
  refine w_getR f20_11 (by assumption) rfl (by omega) ?_
  refine w_aloadn f20_14 rfl (by omega) ?_
  refine w_getI f20_15 (by decide) (by assumption) (by (try simp only [hput, hcopy, Nat.reduceEqDiff, Nat.add_left_cancel_iff, Nat.add_right_cancel_iff, Nat.left_eq_add, Nat.add_eq_left, Nat.right_eq_add, Nat.add_eq_right, Nat.reduceAdd, Nat.add_zero, Nat.succ_ne_self, Nat.one_ne_zero, Nat.zero_ne_one, eq_self, and_self, and_true, true_and, and_false, false_and, if_true, if_false, reduceIte, Int.reduceToNat, Int.toNat_natCast, e]); exact rfl) ?_
  refine w_iloadn f20_18 rfl ?_
  refine w_iast f20_19 (by assumption) (by omega) ?_
  refine w_aloadn f20_20 rfl (by omega) ?_
  refine w_dup f20_21 rfl ?_
  refine w_getI f20_22 (by decide) (by assumption) (by exact (hput_k (by decide)).trans e) ?_
  refine w_iconst (v := 1) f20_25 (by decide) ?_
  refine w_iaddn f20_26 (by omega) ?_
  refine w_putI f20_27 (by assumption) ?_
  refine w_ret f20_30 rfl ?_
  exact ⟨_, q.put, rfl⟩
theorem s18 {h0 : Nat → Nat → Int} {x : Int} (q : Txc h0 b n h) (hn : 0 ≤ n ∧ n ≤ 696) : Rn (ev 18 0 [AR 2, AI x] [] (KS r d, h, R)) (fun o => ∃ h1, Txc h0 (apW b n x) (n + 4) h1 ∧ o = (.inl AU, (KS r d, h1, R))) := by
  have k2 := @kd_2 r d
  refine w_aloadn f18_0 rfl (by omega) ?_
  refine w_iloadn f18_1 rfl ?_
  refine w_bipush (v := 24) f18_2 (by decide) ?_
  refine w_iushr f18_4 (by decide) ?_
  refine w_qV f18_5 (Or.inl rfl) rfl (by omega) (okd_of (by assumption)) rfl ⟨Nat.le_of_ble_eq_true rfl, rfl, Nat.le_of_ble_eq_true rfl⟩ (en20 _ _) (s20 q (by omega)) (fun o9 ho9 => ?_)
  obtain ⟨h1, q1, rfl⟩ := ho9
  refine w_bok (pv20 _ _) ?_
  refine w_aloadn f18_8 rfl (by omega) ?_
  refine w_iloadn f18_9 rfl ?_
  refine w_bipush (v := 16) f18_10 (by decide) ?_
  refine w_iushr f18_12 (by decide) ?_
  refine w_sipush (v := 255) f18_13 (by decide) ?_
  refine w_iand255 f18_16 ?_
  refine w_qV f18_17 (Or.inl rfl) rfl (by omega) (okd_of (by assumption)) rfl ⟨Nat.le_of_ble_eq_true rfl, rfl, Nat.le_of_ble_eq_true rfl⟩ (en20 _ _) (s20 q1 (by omega)) (fun o9 ho9 => ?_)
  obtain ⟨h2, q2, rfl⟩ := ho9
  refine w_bok (pv20 _ _) ?_
  refine w_aloadn f18_20 rfl (by omega) ?_
  refine w_iloadn f18_21 rfl ?_
  refine w_bipush (v := 8) f18_22 (by decide) ?_
  refine w_iushr f18_24 (by decide) ?_
  refine w_sipush (v := 255) f18_25 (by decide) ?_
  refine w_iand255 f18_28 ?_
  refine w_qV f18_29 (Or.inl rfl) rfl (by omega) (okd_of (by assumption)) rfl ⟨Nat.le_of_ble_eq_true rfl, rfl, Nat.le_of_ble_eq_true rfl⟩ (en20 _ _) (s20 q2 (by omega)) (fun o9 ho9 => ?_)
  obtain ⟨h3, q3, rfl⟩ := ho9
  refine w_bok (pv20 _ _) ?_
  refine w_aloadn f18_32 rfl (by omega) ?_
  refine w_iloadn f18_33 rfl ?_
  refine w_sipush (v := 255) f18_34 (by decide) ?_
  refine w_iand255 f18_37 ?_
  refine w_qV f18_38 (Or.inl rfl) rfl (by omega) (okd_of (by assumption)) rfl ⟨Nat.le_of_ble_eq_true rfl, rfl, Nat.le_of_ble_eq_true rfl⟩ (en20 _ _) (s20 q3 (by omega)) (fun o9 ho9 => ?_)
  obtain ⟨h4, q4, rfl⟩ := ho9
  refine w_bok (pv20 _ _) ?_
  refine w_ret f18_41 rfl ?_
  refine ⟨h4, ?_, rfl⟩
  rw [show (2 : Int) ^ Int.toNat 24 = 16777216 from rfl, show (2 : Int) ^ Int.toNat 16 = 65536 from rfl, show (2 : Int) ^ Int.toNat 8 = 256 from rfl, show x % 4294967296 / 16777216 = x / 16777216 % 256 by omega, show x % 4294967296 / 65536 % 256 = x / 65536 % 256 by omega, show x % 4294967296 / 256 % 256 = x / 256 % 256 by omega, show n + 1 + 1 + 1 + 1 = n + 4 by omega, show n + 1 + 1 + 1 = n + 3 by omega, show n + 1 + 1 = n + 2 by omega] at q4
  exact q4
theorem s73 {x1 x2 x3 x4 x5 : Int} (hb : h 3 = b) (hc : h 2 1 = n) (hn : 0 ≤ n ∧ n ≤ 700) : Rn (ev 73 0 [AR 1, AI x1, AI x2, AI x3, AI x4, AI x5] [] (KS r d, h, R)) (fun o => (n + 20 ≤ 700 ∧ ∃ h1, Txc h (apI b n x1 x2 x3 x4 x5) (n + 20) h1 ∧ o = (.inl (AI (n + 20)), (KS r d, h1, R))) ∨ (700 < n + 20 ∧ o = (.inl (AI (-1)), (KS r d, h, R)))) := by
  have k1 := @kd_1 r d
  have k2 := @kd_2 r d
  have q : Txc h b n h := ⟨⟨hb, hc⟩, fun _ _ _ _ => rfl⟩
  refine w_aloadn f73_0 rfl (by omega) ?_
  refine w_getR f73_1 (by assumption) rfl (by omega) ?_
  refine w_getI f73_4 (by decide) (by assumption) (by (try simp only [hput, hcopy, Nat.reduceEqDiff, Nat.add_left_cancel_iff, Nat.add_right_cancel_iff, Nat.left_eq_add, Nat.add_eq_left, Nat.right_eq_add, Nat.add_eq_right, Nat.reduceAdd, Nat.add_zero, Nat.succ_ne_self, Nat.one_ne_zero, Nat.zero_ne_one, eq_self, and_self, and_true, true_and, and_false, false_and, if_true, if_false, reduceIte, Int.reduceToNat, Int.toNat_natCast, hc]); exact rfl) ?_
  refine w_bipush (v := 20) f73_7 (by decide) ?_
  refine w_iaddn f73_9 (by omega) ?_
  refine w_sipush (v := 700) f73_10 (by decide) ?_
  refine w_ic_le (t := 18) f73_13 (by decide) (fun c1 => ?_) (fun c1 => ?_)
  · refine w_aloadn f73_18 rfl (by omega) ?_
    refine w_getR f73_19 (by assumption) rfl (by omega) ?_
    refine w_iloadn f73_22 rfl ?_
    refine w_qV f73_23 (Or.inl rfl) rfl (by omega) (okd_of (by assumption)) rfl ⟨Nat.le_of_ble_eq_true rfl, rfl, Nat.le_of_ble_eq_true rfl⟩ (en18 _ _) (s18 q (by omega)) (fun o9 ho9 => ?_)
    obtain ⟨h1, q1, rfl⟩ := ho9
    refine w_bok (pv18 _ _) ?_
    refine w_aloadn f73_26 rfl (by omega) ?_
    refine w_getR f73_27 (by assumption) rfl (by omega) ?_
    refine w_iloadn f73_30 rfl ?_
    refine w_qV f73_31 (Or.inl rfl) rfl (by omega) (okd_of (by assumption)) rfl ⟨Nat.le_of_ble_eq_true rfl, rfl, Nat.le_of_ble_eq_true rfl⟩ (en18 _ _) (s18 q1 (by omega)) (fun o9 ho9 => ?_)
    obtain ⟨h2, q2, rfl⟩ := ho9
    refine w_bok (pv18 _ _) ?_
    refine w_aloadn f73_34 rfl (by omega) ?_
    refine w_getR f73_35 (by assumption) rfl (by omega) ?_
    refine w_iloadn f73_38 rfl ?_
    refine w_qV f73_39 (Or.inl rfl) rfl (by omega) (okd_of (by assumption)) rfl ⟨Nat.le_of_ble_eq_true rfl, rfl, Nat.le_of_ble_eq_true rfl⟩ (en18 _ _) (s18 q2 (by omega)) (fun o9 ho9 => ?_)
    obtain ⟨h3, q3, rfl⟩ := ho9
    refine w_bok (pv18 _ _) ?_
    refine w_aloadn f73_42 rfl (by omega) ?_
    refine w_getR f73_43 (by assumption) rfl (by omega) ?_
    refine w_iload f73_46 rfl ?_
    refine w_qV f73_48 (Or.inl rfl) rfl (by omega) (okd_of (by assumption)) rfl ⟨Nat.le_of_ble_eq_true rfl, rfl, Nat.le_of_ble_eq_true rfl⟩ (en18 _ _) (s18 q3 (by omega)) (fun o9 ho9 => ?_)
    obtain ⟨h4, q4, rfl⟩ := ho9
    refine w_bok (pv18 _ _) ?_
    refine w_aloadn f73_51 rfl (by omega) ?_
    refine w_getR f73_52 (by assumption) rfl (by omega) ?_
    refine w_iload f73_55 rfl ?_
    refine w_qV f73_57 (Or.inl rfl) rfl (by omega) (okd_of (by assumption)) rfl ⟨Nat.le_of_ble_eq_true rfl, rfl, Nat.le_of_ble_eq_true rfl⟩ (en18 _ _) (s18 q4 (by omega)) (fun o9 ho9 => ?_)
    obtain ⟨h5, q5, rfl⟩ := ho9
    rw [show n + 4 + 4 + 4 + 4 + 4 = n + 20 by omega, show n + 4 + 4 = n + 8 by omega, show n + 8 + 4 = n + 12 by omega, show n + 12 + 4 = n + 16 by omega] at q5
    refine w_bok (pv18 _ _) ?_
    refine w_aloadn f73_60 rfl (by omega) ?_
    refine w_getR f73_61 (by assumption) rfl (by omega) ?_
    refine w_getI f73_64 (by decide) (by assumption) (by exact q5.1.2) ?_
    refine w_iret f73_67 rfl ?_
    first | exact Or.inl ⟨by omega, _, q5, rfl⟩ | exact Or.inr ⟨by omega, rfl⟩
  · refine w_iconst (v := -1) f73_16 (by decide) ?_
    refine w_iret f73_17 rfl ?_
    first | exact Or.inl ⟨by omega, _, q5, rfl⟩ | exact Or.inr ⟨by omega, rfl⟩
theorem s74 {x : Int} (hc : h 2 1 = n) (hn : 0 ≤ n ∧ n ≤ 700) : Rn (ev 74 0 [AR 1, AI x] [] (KS r d, h, R)) (fun o => (0 ≤ x ∧ x ≤ n ∧ o = (.inl (AI 1), (KS r d, hput h 2 1 x, R))) ∨ (¬ (0 ≤ x ∧ x ≤ n) ∧ o = (.inl (AI 0), (KS r d, h, R)))) := by
  have k1 := @kd_1 r d
  have k2 := @kd_2 r d
  refine w_iloadn f74_0 rfl ?_
  refine w_if_lt (t := 15) f74_1 (by decide) (fun c1 => ?_) (fun c1 => ?_)
  · refine w_iconst (v := 0) f74_15 (by decide) ?_
    refine w_zret f74_16 rfl (by decide) ?_
    first | exact Or.inl ⟨by omega, by omega, rfl⟩ | exact Or.inr ⟨by omega, rfl⟩
  · refine w_iloadn f74_4 rfl ?_
    refine w_aloadn f74_5 rfl (by omega) ?_
    refine w_getR f74_6 (by assumption) rfl (by omega) ?_
    refine w_getI f74_9 (by decide) (by assumption) (by (try simp only [hput, hcopy, Nat.reduceEqDiff, Nat.add_left_cancel_iff, Nat.add_right_cancel_iff, Nat.left_eq_add, Nat.add_eq_left, Nat.right_eq_add, Nat.add_eq_right, Nat.reduceAdd, Nat.add_zero, Nat.succ_ne_self, Nat.one_ne_zero, Nat.zero_ne_one, eq_self, and_self, and_true, true_and, and_false, false_and, if_true, if_false, reduceIte, Int.reduceToNat, Int.toNat_natCast, hc]); exact rfl) ?_
    refine w_ic_le (t := 17) f74_12 (by decide) (fun c2 => ?_) (fun c2 => ?_)
    · refine w_aloadn f74_17 rfl (by omega) ?_
      refine w_getR f74_18 (by assumption) rfl (by omega) ?_
      refine w_iloadn f74_21 rfl ?_
      refine w_putI f74_22 (by assumption) ?_
      refine w_iconst (v := 1) f74_25 (by decide) ?_
      refine w_zret f74_26 rfl (by decide) ?_
      first | exact Or.inl ⟨by omega, by omega, rfl⟩ | exact Or.inr ⟨by omega, rfl⟩
    · refine w_iconst (v := 0) f74_15 (by decide) ?_
      refine w_zret f74_16 rfl (by decide) ?_
      first | exact Or.inl ⟨by omega, by omega, rfl⟩ | exact Or.inr ⟨by omega, rfl⟩
end A

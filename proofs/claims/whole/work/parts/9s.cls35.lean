/-! the class: what several calls share -/
section A
variable {K : List AKd} {h : Nat → Nat → Int} {R : R4} {σ : Sg} {r d : Nat} {w : Nat → Int} {b : Nat → Int} {n : Int}
theorem s132 {i c : Int} : ((0 ≤ i ∧ i < c) ∧ ev 132 0 [AI i, AI c] [] σ = some (.inl AU, σ)) ∨ (¬ (0 ≤ i ∧ i < c) ∧ ev 132 0 [AI i, AI c] [] σ = some (.inr 0, bump σ)) := by
  by_cases z : 0 ≤ i ∧ i < c
  · refine Or.inl ⟨z, Rn.eq ?_⟩
    refine w_iloadn f132_0 rfl ?_
    refine w_if_lt (t := 9) f132_1 (by decide) (fun c1 => by omega) (fun c1 => ?_)
    refine w_iloadn f132_4 rfl ?_
    refine w_iloadn f132_5 rfl ?_
    refine w_ic_lt (t := 20) f132_6 (by decide) (fun c2 => ?_) (fun c2 => by omega)
    refine w_ret f132_20 rfl ?_
    rfl
  · refine Or.inr ⟨z, Rn.eq ?_⟩
    refine w_iloadn f132_0 rfl ?_
    refine w_if_lt (t := 9) f132_1 (by decide) (fun c1 => ?_) (fun c1 => ?_)
    · refine w_thr f132_9 (Nat.le_of_ble_eq_true rfl) ?_
      first | rfl | (exfalso; omega)
    · refine w_iloadn f132_4 rfl ?_
      refine w_iloadn f132_5 rfl ?_
      refine w_ic_lt (t := 20) f132_6 (by decide) (fun c2 => ?_) (fun c2 => ?_)
      · refine w_ret f132_20 rfl ?_
        first | rfl | (exfalso; omega)
      · refine w_thr f132_9 (Nat.le_of_ble_eq_true rfl) ?_
        first | rfl | (exfalso; omega)
theorem s133 {x : Int} : (x ≠ 0 ∧ ev 133 0 [AI x] [] σ = some (.inl AU, σ)) ∨ (¬ x ≠ 0 ∧ ev 133 0 [AI x] [] σ = some (.inr 1, bump σ)) := by
  by_cases z : x ≠ 0
  · refine Or.inl ⟨z, Rn.eq ?_⟩
    refine w_iloadn f133_0 rfl ?_
    refine w_if_ne (t := 15) f133_1 (by decide) (fun c1 => ?_) (fun c1 => by omega)
    refine w_ret f133_15 rfl ?_
    rfl
  · refine Or.inr ⟨z, Rn.eq ?_⟩
    refine w_iloadn f133_0 rfl ?_
    refine w_if_ne (t := 15) f133_1 (by decide) (fun c1 => by omega) (fun c1 => ?_)
    refine w_thr f133_4 (Nat.le_of_ble_eq_true rfl) ?_
    rfl
theorem s134 {x : Int} : (x ≠ 0 ∧ ev 134 0 [AI x] [] σ = some (.inl AU, σ)) ∨ (¬ x ≠ 0 ∧ ev 134 0 [AI x] [] σ = some (.inr 2, bump σ)) := by
  by_cases z : x ≠ 0
  · refine Or.inl ⟨z, Rn.eq ?_⟩
    refine w_iloadn f134_0 rfl ?_
    refine w_if_ne (t := 15) f134_1 (by decide) (fun c1 => ?_) (fun c1 => by omega)
    refine w_ret f134_15 rfl ?_
    rfl
  · refine Or.inr ⟨z, Rn.eq ?_⟩
    refine w_iloadn f134_0 rfl ?_
    refine w_if_ne (t := 15) f134_1 (by decide) (fun c1 => by omega) (fun c1 => ?_)
    refine w_thr f134_4 (Nat.le_of_ble_eq_true rfl) ?_
    rfl
theorem s135 {x : Int} : (x ≠ 0 ∧ ev 135 0 [AI x] [] σ = some (.inl AU, σ)) ∨ (¬ x ≠ 0 ∧ ev 135 0 [AI x] [] σ = some (.inr 3, bump σ)) := by
  by_cases z : x ≠ 0
  · refine Or.inl ⟨z, Rn.eq ?_⟩
    refine w_iloadn f135_0 rfl ?_
    refine w_if_ne (t := 15) f135_1 (by decide) (fun c1 => ?_) (fun c1 => by omega)
    refine w_ret f135_15 rfl ?_
    rfl
  · refine Or.inr ⟨z, Rn.eq ?_⟩
    refine w_iloadn f135_0 rfl ?_
    refine w_if_ne (t := 15) f135_1 (by decide) (fun c1 => by omega) (fun c1 => ?_)
    refine w_thr f135_4 (Nat.le_of_ble_eq_true rfl) ?_
    rfl
/-- the shapes of the standings, the step, the search -/
theorem sh8 : ShSt (KS r d) 8 := ⟨kd_8, ⟨kd_9, kd_10⟩, ⟨kd_11, kd_12, kd_13, kd_14, kd_15⟩, ⟨kd_16, kd_17, kd_18, kd_19, kd_20⟩⟩
theorem sh21 : ShSt (KS r d) 21 := ⟨kd_21, ⟨kd_22, kd_23⟩, ⟨kd_24, kd_25, kd_26, kd_27, kd_28⟩, ⟨kd_29, kd_30, kd_31, kd_32, kd_33⟩⟩
theorem sh140 : ShSp (KS r d) 140 := ⟨kd_140, kd_141, kd_142⟩
theorem hW_d (hc : WFc w) : hereW w / 1000 = w 5 ∧ ∀ j : Int, 0 ≤ j → j < 3 → vIn (hereW w) j = w (6 + j).toNat := by
  obtain ⟨a1, a2, a3, a4⟩ := hc
  obtain ⟨e1, e2, e3, e4⟩ := dgr (q := w 5) a2 a3 a4
  have e : hereW w = 1000 * w 5 + 100 * w 8 + 10 * w 7 + w 6 := by unfold hereW; omega
  rw [← e] at e1 e2 e3 e4
  refine ⟨e1, fun j h1 h2 => ?_⟩
  rcases (show j = 0 ∨ j = 1 ∨ j = 2 by omega) with rfl | rfl | rfl
  · exact vIn0.trans e2
  · exact vIn1.trans e3
  · exact vIn2.trans e4
theorem hW_c {u : Nat → Int} {c : Int} (e5 : u 5 = c / 1000) (e6 : u 6 = vIn c 0) (e7 : u 7 = vIn c 1) (e8 : u 8 = vIn c 2) : hereW u = c := by
  obtain ⟨q, x, y, z, -, -, -, e, e1, e2, e3, e4⟩ := dg c
  unfold hereW
  rw [e5, e6, e7, e8, e1, e2, e3, e4]
  omega
theorem hW_ag {u : Nat → Int} (e5 : u 5 = w 5) (e6 : u 6 = w 6) (e7 : u 7 = w 7) (e8 : u 8 = w 8) : hereW u = hereW w := by
  unfold hereW
  rw [e5, e6, e7, e8]
theorem hW_g2 (hW : WFm w) : hereW (g2sW w) = startW w := by
  obtain ⟨a1, a2, a3, a4, -⟩ := stW_v (hW.2.1 0 (by decide) (by decide)) (hW.2.1 1 (by decide) (by decide)) (hW.2.1 2 (by decide) (by decide))
  exact hW_c a1.symm a2.symm a3.symm a4.symm
theorem hW_set (hc : WFc w) {i v : Int} (hi : 0 ≤ i ∧ i < 3) (hv : 0 ≤ v ∧ v ≤ 9) : hereW (udI w (6 + i).toNat v) = withV (hereW w) i v := by
  obtain ⟨a1, a2⟩ := hW_d hc
  have g : ∀ j : Int, 0 ≤ j → j < 3 → udI w (6 + i).toNat v (6 + j).toNat = vIn (withV (hereW w) i v) j := fun j h1 h2 => by
    rw [withV_v hv hi ⟨h1, h2⟩]
    unfold udI
    by_cases z : j = i
    · rw [if_pos z, if_pos (by omega)]
    · rw [if_neg z, if_neg (by omega), a2 j h1 h2]
  exact hW_c (by rw [withV_st hv, a1]; exact if_neg (by omega)) (g 0 (by decide) (by decide)) (g 1 (by decide) (by decide)) (g 2 (by decide) (by decide))
theorem CRl.ag {k : Nat} {u : Nat → Int} (q : CRl h k w) (hW : WFm w) (e : ∀ y, y < 4 ∨ (9 ≤ y ∧ y ≤ 11) ∨ (93 ≤ y ∧ y < 309) ∨ (357 ≤ y ∧ y < 504) → u y = w y) : CRl h k u := by
  obtain ⟨⟨v0, v1, v2, v3, v4⟩, -, ⟨n0, n1, n2⟩, -⟩ := hW
  obtain ⟨⟨q1, q2, q3⟩, q4, q5⟩ := q
  refine ⟨⟨q1.ag (e 0 (by omega)) (fun i hi => (n0 i (by omega) hi).2) (fun i hi y y1 y2 => e y (by have hi : (i : Int) < w 0 := hi; omega)) (by decide), q2.ag (e 1 (by omega)) (fun i hi => (n1 i (by omega) hi).2) (fun i hi y y1 y2 => e y (by have hi : (i : Int) < w 1 := hi; omega)) (by decide), q3.ag (e 2 (by omega)) (fun i hi => (n2 i (by omega) hi).2) (fun i hi y y1 y2 => e y (by have hi : (i : Int) < w 2 := hi; omega)) (by decide)⟩, ?_, q5.ag v3 (e 3 (by omega)) (fun y y1 y2 => e y (by omega))⟩
  unfold startW
  rw [e 9 (by omega), e 10 (by omega), e 11 (by omega)]
  exact q4
theorem s137 : ev 137 0 [AR 1] [] (KS r d, h, R) = some (.inl AU, (KS r d, hput (hput (hput h 1 11 (h 2 6)) 1 12 (h 2 7)) 2 1 0, R)) := by
  refine Rn.eq ?_
  have k1 := @kd_1 r d
  have k2 := @kd_2 r d
  refine w_aloadn f137_0 rfl (by omega) ?_
  refine w_aloadn f137_1 rfl (by omega) ?_
  refine w_getR f137_2 (by assumption) rfl (by omega) ?_
  refine w_getI f137_5 (by decide) (by assumption) (by (try simp only [hput, hcopy, Nat.reduceEqDiff, Nat.add_left_cancel_iff, Nat.add_right_cancel_iff, Nat.left_eq_add, Nat.add_eq_left, Nat.right_eq_add, Nat.add_eq_right, Nat.reduceAdd, Nat.add_zero, Nat.succ_ne_self, Nat.one_ne_zero, Nat.zero_ne_one, eq_self, and_self, and_true, true_and, and_false, false_and, if_true, if_false, reduceIte, Int.reduceToNat, Int.toNat_natCast]); exact rfl) ?_
  refine w_putI f137_8 (by assumption) ?_
  refine w_aloadn f137_11 rfl (by omega) ?_
  refine w_aloadn f137_12 rfl (by omega) ?_
  refine w_getR f137_13 (by assumption) rfl (by omega) ?_
  refine w_getI f137_16 (by decide) (by assumption) (by (try simp only [hput, hcopy, Nat.reduceEqDiff, Nat.add_left_cancel_iff, Nat.add_right_cancel_iff, Nat.left_eq_add, Nat.add_eq_left, Nat.right_eq_add, Nat.add_eq_right, Nat.reduceAdd, Nat.add_zero, Nat.succ_ne_self, Nat.one_ne_zero, Nat.zero_ne_one, eq_self, and_self, and_true, true_and, and_false, false_and, if_true, if_false, reduceIte, Int.reduceToNat, Int.toNat_natCast]); exact rfl) ?_
  refine w_putI f137_19 (by assumption) ?_
  refine w_aloadn f137_22 rfl (by omega) ?_
  refine w_getR f137_23 (by assumption) rfl (by omega) ?_
  refine w_iconst (v := 0) f137_26 (by decide) ?_
  refine w_putI f137_27 (by assumption) ?_
  refine w_ret f137_30 rfl ?_
  rfl
/-- what remembering leaves -/
def KpQ (h : Nat → Nat → Int) (w : Nat → Int) (h1 : Nat → Nat → Int) : Prop := KpF ((h 34 1 + 1) % 8) (hput h 143 0 0) h1 ∧ h1 34 1 = (h 34 1 + 1) % 8 ∧ h1 34 2 = (if h 34 2 < 8 then h 34 2 + 1 else h 34 2) ∧ RSt h1 (36 + 13 * ((h 34 1 + 1) % 8).toNat) w
theorem s138 (h4 : 0 ≤ w 4 ∧ w 4 ≤ 12) (h18 : w 18 ≤ 20) (hp : 0 ≤ h 34 1 ∧ h 34 1 < 8) (hc : 0 ≤ h 34 2 ∧ h 34 2 ≤ 8) (hv : RSt h 8 w) : Rn (ev 138 0 [AR 1] [] (KS r d, h, R)) (fun o => ∃ h1, KpQ h w h1 ∧ o = (.inl AU, (KS r d, h1, R))) := by
  have k1 := @kd_1 r d
  have k34 := @kd_34 r d
  have k143 := @kd_143 r d
  refine w_aloadn f138_0 rfl (by omega) ?_
  refine w_getR f138_1 (by assumption) rfl (by omega) ?_
  refine w_aloadn f138_4 rfl (by omega) ?_
  refine w_getR f138_5 (by assumption) rfl (by omega) ?_
  refine w_qV f138_8 (Or.inl rfl) rfl (by omega) (okd_of (by assumption)) rfl ⟨Nat.le_of_ble_eq_true rfl, rfl, Nat.le_of_ble_eq_true rfl⟩ (en15 _ _) (s15 sh8 (by decide) (by decide) h4 h18 rfl rfl hp hc hv) (fun o9 ho9 => ?_)
  obtain ⟨h1, ⟨q1, q2, q3, q4⟩, rfl⟩ := ho9
  refine w_bok (pv15 _ _) ?_
  refine w_aloadn f138_11 rfl (by omega) ?_
  refine w_getR f138_12 (by assumption) rfl (by omega) ?_
  refine w_iconst (v := 0) f138_15 (by decide) ?_
  refine w_putZ f138_16 (by assumption) (by decide) ?_
  refine w_ret f138_19 rfl ?_
  refine ⟨_, ⟨fun x y x1 x2 => ?_, (hput_k (by decide)).trans q2, (hput_k (by decide)).trans q3, q4.fr (fun x y z1 z2 => hput_k (by omega))⟩, rfl⟩
  unfold hput
  by_cases z : x = 143 ∧ y = 0
  · rw [if_pos z, if_pos z]
  · rw [if_neg z, if_neg z]; exact q1 x y x1 x2
theorem RCv.rej {k : Nat} {v : Int} (q : RCv h k w) (hv : 1 ≤ v ∧ v < 5) : RCv (hput (hput h k 4 (wr (h k 4 + 1))) (k + 3) v.toNat (wr (h (k + 3) v.toNat + 1))) k (rejW w v) := by
  obtain ⟨⟨a1, a2, a3⟩, a4, a5, ⟨a6, a7⟩, a8⟩ := q
  have o : ∀ y : Nat, y ≠ 17 → y ≠ (12 + v).toNat → rejW w v y = w y := fun y y1 y2 => by
    unfold rejW udI
    rw [if_neg y1, if_neg y2]
  refine ⟨⟨?_, ?_, ?_⟩, fun t ht => ?_, fun t ht => ?_, ⟨?_, fun t t1 t2 => ?_⟩, fun t ht => ?_⟩
  · rw [o 12 (by omega) (by omega)]; exact (hput_k (by omega)).trans ((hput_j (by decide)).trans a1)
  · show _ = udI _ 17 _ 17
    rw [show udI (udI w (12 + v).toNat (wr (w (12 + v).toNat + 1))) 17 (wr (w 17 + 1)) 17 = wr (w 17 + 1) from if_pos rfl, ← a2]
    exact (hput_k (by omega)).trans hput_s
  · rw [o 18 (by omega) (by omega)]; exact (hput_k (by omega)).trans ((hput_j (by decide)).trans a3)
  · rw [o _ (by omega) (by omega)]; exact (hput_k (by omega)).trans ((hput_k (by omega)).trans (a4 t ht))
  · rw [o _ (by omega) (by omega)]; exact (hput_k (by omega)).trans ((hput_k (by omega)).trans (a5 t ht))
  · exact (hput_j (by omega)).trans ((hput_k (by omega)).trans a6)
  · by_cases z : (t : Int) = v
    · have e : t = v.toNat := by omega
      have e2 : (12 + v).toNat = 12 + t := by omega
      have e3 : rejW w v (12 + t) = wr (w (12 + t) + 1) := by
        unfold rejW udI
        rw [if_neg (by omega), e2, if_pos rfl]
      rw [e3, ← e, ← a7 t t1 t2]
      exact hput_s
    · rw [o _ (by omega) (by omega)]
      exact (hput_j (by omega)).trans ((hput_k (by omega)).trans (a7 t t1 t2))
  · rw [o 18 (by omega) (by omega)] at ht
    by_cases z : 20 + 2 * t = 17
    · omega
    · rw [o _ z (by omega)]
      exact (hput_k (by omega)).trans ((hput_k (by omega)).trans (a8 t ht))
theorem s140 {N e : Int} (hr : RD2 r) (hd : WFd w N) (qr : RTr h r w) (q : RSt h 8 w) : Rn (ev 140 0 [AR 1, AI e] [] (KS r d, h, R)) (fun o => ∃ h1, ((∀ x y, (x < 8 ∨ 21 ≤ x) → (x < 140 ∨ 143 ≤ x) → h1 x y = h x y) ∧ RSt h1 8 (firW w e)) ∧ o = (.inl (AI (vdt w (hereW w) e).1), (KS r d, h1, R))) := by
  have k1 := @kd_1 r d
  have k8 := @kd_8 r d
  have k9 := @kd_9 r d
  have k16 := @kd_16 r d
  have k140 := @kd_140 r d
  have k141 := @kd_141 r d
  obtain ⟨hW, hc, d1, d2, d3, d4⟩ := hd
  have hh := hereW_r hc
  have hl := shRl (r := r) (d := d) hr
  have hv9 := vdt_v (w := w) (c := hereW w) (e := e) hW.1.2.2.2.1.1
  have hr9 := vdt_r (e := e) hW.ft hh
  have h24 := hW.1.2.2.2.1
  obtain ⟨q1, q2, q3⟩ := q
  have r0 : 156 ≤ r := by unfold RD2 at hr; omega
  have prep : ∀ h2, AtR h 140 w (vdt w (hereW w) e) h2 → RCf h2 9 (hereW w) ∧ RIv h2 11 w ∧ RCv h2 16 w := fun h2 p => ⟨q1.ot p.1 (by decide), q2.ot p.1 (by decide), q3.ot p.1 (by decide)⟩
  by_cases zv : (vdt w (hereW w) e).1 = 0
  · obtain ⟨t0, t1, -, -⟩ := hv9.2 zv
    have ef : firW w e = trcW (ac0W w (vdt w (hereW w) e).2.2 (vdt w (hereW w) e).2.1) e (vdt w (hereW w) e).2.1 := if_pos zv
    have fin : ∀ h2 h3 h4 : Nat → Nat → Int, AtR h 140 w (vdt w (hereW w) e) h2 → Ot 9 2 h2 h3 → RCf h3 9 (vdt w (hereW w) e).2.2 → Ot 16 5 h3 h4 → RCv h4 16 (trcW (ac0W w (vdt w (hereW w) e).2.2 (vdt w (hereW w) e).2.1) e (vdt w (hereW w) e).2.1) → ((∀ x y, (x < 8 ∨ 21 ≤ x) → (x < 140 ∨ 143 ≤ x) → h4 x y = h x y) ∧ RSt h4 8 (firW w e)) := fun h2 h3 h4 p o1 c1 o2 c2 => by
      have hr2 : 0 ≤ (vdt w (hereW w) e).2.1 ∧ (vdt w (hereW w) e).2.1 < 24 := ⟨t0, by omega⟩
      have e18 : ac0W w (vdt w (hereW w) e).2.2 (vdt w (hereW w) e).2.1 18 = w 18 := ac0W_o hr9 hr2 (by omega)
      have h8' : 0 ≤ ac0W w (vdt w (hereW w) e).2.2 (vdt w (hereW w) e).2.1 18 ∧ ac0W w (vdt w (hereW w) e).2.2 (vdt w (hereW w) e).2.1 18 ≤ 20 := by rw [e18]; exact d1
      obtain ⟨a5, a6, a7, a8⟩ := ac0W_c (w := w) hr9 hr2
      refine ⟨fun x y x1 x2 => (o2 x y (by omega)).trans ((o1 x y (by omega)).trans (p.1 x y (by omega))), ?_⟩
      rw [ef]
      refine ⟨?_, ?_, c2⟩
      · rw [hW_c (c := (vdt w (hereW w) e).2.2) ((trcW_o h8' (by omega)).trans a5) ((trcW_o h8' (by omega)).trans a6) ((trcW_o h8' (by omega)).trans a7) ((trcW_o h8' (by omega)).trans a8)]
        exact c1.ot o2 (by decide)
      · exact ((((prep h2 p).2.1.ot o1 (by decide)).ot o2 (by decide))).ag hW.1.2.2.2.2 ((trcW_o h8' (by omega)).trans (ac0W_o hr9 hr2 (by omega))) (fun y y1 y2 => (trcW_o h8' (by omega)).trans (ac0W_o hr9 hr2 (by omega)))
    refine w_aloadn f140_0 rfl (by omega) ?_
    refine w_getR f140_1 (by assumption) rfl (by omega) ?_
    refine w_aloadn f140_4 rfl (by omega) ?_
    refine w_getR f140_5 (by assumption) rfl (by omega) ?_
    refine w_aloadn f140_8 rfl (by omega) ?_
    refine w_getR f140_9 (by assumption) rfl (by omega) ?_
    refine w_getR f140_12 (by assumption) rfl (by omega) ?_
    refine w_aloadn f140_15 rfl (by omega) ?_
    refine w_getR f140_16 (by assumption) rfl (by omega) ?_
    refine w_getR f140_19 (by assumption) rfl (by omega) ?_
    refine w_iloadn f140_22 rfl ?_
    refine w_qV f140_23 (Or.inl rfl) rfl (by omega) (okd_of (by assumption)) rfl ⟨Nat.le_of_ble_eq_true rfl, rfl, Nat.le_of_ble_eq_true rfl⟩ (en69 _ _ _ _ _) (s69 (e := e) (i := 11) (j := 9) sh140 hl sh8.2.2.1 sh8.2.1 (by decide) (by omega) (by decide) (by decide) (by omega) (by omega) (by omega) hW qr q2 q1 hh) (fun o9 ho9 => ?_)
    obtain ⟨h2, p, rfl⟩ := ho9
    refine w_bok (pv69 _ _) ?_
    refine w_aloadn f140_26 rfl (by omega) ?_
    refine w_getR f140_27 (by assumption) rfl (by omega) ?_
    refine w_getI f140_30 (by decide) (by assumption) (by exact p.2.1) ?_
    refine w_if_ne (t := 83) f140_33 (by decide) (fun c1 => by omega) (fun c1 => ?_)
    refine w_aloadn f140_36 rfl (by omega) ?_
    refine w_getR f140_37 (by assumption) rfl (by omega) ?_
    refine w_getR f140_40 (by assumption) rfl (by omega) ?_
    refine w_aloadn f140_43 rfl (by omega) ?_
    refine w_getR f140_44 (by assumption) rfl (by omega) ?_
    refine w_getR f140_47 (by assumption) rfl (by omega) ?_
    refine w_qV f140_50 (Or.inl rfl) rfl (by omega) (okd_of (by assumption)) rfl ⟨Nat.le_of_ble_eq_true rfl, rfl, Nat.le_of_ble_eq_true rfl⟩ (en1 _ _) (s1 sh8.2.1 sh140.2 (by decide) (by decide) (by decide) (p.2.2.2.2 zv)) (fun o9 ho9 => ?_)
    obtain ⟨h3, ⟨o1, c1⟩, rfl⟩ := ho9
    refine w_bok (pv1 _ _) ?_
    refine w_aloadn f140_53 rfl (by omega) ?_
    refine w_getR f140_54 (by assumption) rfl (by omega) ?_
    refine w_getR f140_57 (by assumption) rfl (by omega) ?_
    refine w_aloadn f140_60 rfl (by omega) ?_
    refine w_getR f140_61 (by assumption) rfl (by omega) ?_
    refine w_getI f140_64 (by decide) (by assumption) (by exact (o1 _ _ (by decide)).trans p.2.2.1) ?_
    refine w_aloadn f140_67 rfl (by omega) ?_
    refine w_getR f140_68 (by assumption) rfl (by omega) ?_
    refine w_getR f140_71 (by assumption) rfl (by omega) ?_
    refine w_getI f140_74 (by decide) (by assumption) (by exact c1.1) ?_
    refine w_qV f140_77 (Or.inl rfl) rfl (by omega) (okd_of (by assumption)) rfl ⟨Nat.le_of_ble_eq_true rfl, rfl, Nat.le_of_ble_eq_true rfl⟩ (en6 _ _ _) (s6 (w := w) (nx := (vdt w (hereW w) e).2.2) e sh8.2.2.2 (by decide) rfl hr9 ⟨t0, by omega⟩ d1 ((prep _ p).2.2.ot o1 (by decide))) (fun o9 ho9 => ?_)
    obtain ⟨h4, ⟨o2, c2⟩, rfl⟩ := ho9
    refine w_bok (pv6 _ _) ?_
    refine w_goto (t := 100) f140_80 (by decide) ?_
    refine w_aloadn f140_100 rfl (by omega) ?_
    refine w_getR f140_101 (by assumption) rfl (by omega) ?_
    refine w_getI f140_104 (by decide) (by assumption) (by exact (o2 _ _ (by decide)).trans ((o1 _ _ (by decide)).trans p.2.1)) ?_
    refine w_iret f140_107 rfl ?_
    exact ⟨h4, fin _ _ _ p o1 c1 o2 c2, rfl⟩
  · have ef : firW w e = rejW w (vdt w (hereW w) e).1 := if_neg zv
    have vr : 1 ≤ (vdt w (hereW w) e).1 ∧ (vdt w (hereW w) e).1 < 5 := by have := hv9.1; omega
    have fin : ∀ h2 : Nat → Nat → Int, AtR h 140 w (vdt w (hereW w) e) h2 → ((∀ x y, (x < 8 ∨ 21 ≤ x) → (x < 140 ∨ 143 ≤ x) → hput (hput h2 16 4 (wr (h2 16 4 + 1))) 19 (vdt w (hereW w) e).1.toNat (wr (h2 19 (vdt w (hereW w) e).1.toNat + 1)) x y = h x y) ∧ RSt (hput (hput h2 16 4 (wr (h2 16 4 + 1))) 19 (vdt w (hereW w) e).1.toNat (wr (h2 19 (vdt w (hereW w) e).1.toNat + 1))) 8 (firW w e)) := fun h2 p => by
      have oR : ∀ y : Nat, ¬ (12 ≤ y ∧ y ≤ 17) → rejW w (vdt w (hereW w) e).1 y = w y := fun y hy => by
        unfold rejW udI
        rw [if_neg (by omega), if_neg (by omega)]
      obtain ⟨c1, c2, c3⟩ := prep h2 p
      refine ⟨fun x y x1 x2 => (hput_k (by omega)).trans ((hput_k (by omega)).trans (p.1 x y (by omega))), ?_⟩
      rw [ef]
      refine ⟨?_, ?_, c3.rej vr⟩
      · have e5 : hereW (rejW w (vdt w (hereW w) e).1) = hereW w := hW_ag (oR 5 (by omega)) (oR 6 (by omega)) (oR 7 (by omega)) (oR 8 (by omega))
        rw [e5]
        exact c1.fr (fun x y z1 z2 => (hput_k (by omega)).trans (hput_k (by omega)))
      · exact (c2.fr (fun x y z1 z2 => (hput_k (by omega)).trans (hput_k (by omega)))).ag hW.1.2.2.2.2 (oR 4 (by omega)) (fun y y1 y2 => oR y (by omega))
    refine w_aloadn f140_0 rfl (by omega) ?_
    refine w_getR f140_1 (by assumption) rfl (by omega) ?_
    refine w_aloadn f140_4 rfl (by omega) ?_
    refine w_getR f140_5 (by assumption) rfl (by omega) ?_
    refine w_aloadn f140_8 rfl (by omega) ?_
    refine w_getR f140_9 (by assumption) rfl (by omega) ?_
    refine w_getR f140_12 (by assumption) rfl (by omega) ?_
    refine w_aloadn f140_15 rfl (by omega) ?_
    refine w_getR f140_16 (by assumption) rfl (by omega) ?_
    refine w_getR f140_19 (by assumption) rfl (by omega) ?_
    refine w_iloadn f140_22 rfl ?_
    refine w_qV f140_23 (Or.inl rfl) rfl (by omega) (okd_of (by assumption)) rfl ⟨Nat.le_of_ble_eq_true rfl, rfl, Nat.le_of_ble_eq_true rfl⟩ (en69 _ _ _ _ _) (s69 (e := e) (i := 11) (j := 9) sh140 hl sh8.2.2.1 sh8.2.1 (by decide) (by omega) (by decide) (by decide) (by omega) (by omega) (by omega) hW qr q2 q1 hh) (fun o9 ho9 => ?_)
    obtain ⟨h2, p, rfl⟩ := ho9
    refine w_bok (pv69 _ _) ?_
    refine w_aloadn f140_26 rfl (by omega) ?_
    refine w_getR f140_27 (by assumption) rfl (by omega) ?_
    refine w_getI f140_30 (by decide) (by assumption) (by exact p.2.1) ?_
    refine w_if_ne (t := 83) f140_33 (by decide) (fun c1 => ?_) (fun c1 => by omega)
    refine w_aloadn f140_83 rfl (by omega) ?_
    refine w_getR f140_84 (by assumption) rfl (by omega) ?_
    refine w_getR f140_87 (by assumption) rfl (by omega) ?_
    refine w_aloadn f140_90 rfl (by omega) ?_
    refine w_getR f140_91 (by assumption) rfl (by omega) ?_
    refine w_getI f140_94 (by decide) (by assumption) (by exact p.2.1) ?_
    refine w_cV f140_97 (Or.inl rfl) rfl (by omega) (okd_of (by assumption)) rfl ⟨Nat.le_of_ble_eq_true rfl, rfl, Nat.le_of_ble_eq_true rfl⟩ (en7 _ _) (s7 sh8.2.2.2 (by decide) ⟨by omega, by omega⟩) (pv7 _ _) ?_
    refine w_aloadn f140_100 rfl (by omega) ?_
    refine w_getR f140_101 (by assumption) rfl (by omega) ?_
    refine w_getI f140_104 (by decide) (by assumption) (by exact (hput_k (by decide)).trans ((hput_k (by decide)).trans p.2.1)) ?_
    refine w_iret f140_107 rfl ?_
    exact ⟨_, fin _ p, rfl⟩
theorem s141 {N i v : Int} (hd : WFd w N) (q : RSt h 8 w) (hi : 0 ≤ i ∧ i < 3) (hv : 0 ≤ v ∧ v ≤ 9) : Rn (ev 141 0 [AR 1, AI i, AI v] [] (KS r d, h, R)) (fun o => ∃ h1, Ot 140 3 h h1 ∧ o = (.inl (AI (b2i (fb w (withV (hereW w) i v) = -1))), (KS r d, h1, R))) := by
  have k1 := @kd_1 r d
  have k8 := @kd_8 r d
  have k9 := @kd_9 r d
  have k11 := @kd_11 r d
  have k140 := @kd_140 r d
  have k141 := @kd_141 r d
  have k142 := @kd_142 r d
  obtain ⟨hW, hc, d1, d2, d3, d4⟩ := hd
  have hh := hereW_r hc
  obtain ⟨q1, q2, q3⟩ := q
  have hv2 := hW.1.2.2.1
  have g1 : ∀ i, 0 ≤ i → i < w 4 → 0 ≤ iv w i 1 ∧ iv w i 1 < 3 := fun i z1 z2 => by
    have := (hW.2.2.2.2 i z1 z2).2.1
    omega
  refine w_aloadn f141_0 rfl (by omega) ?_
  refine w_getR f141_1 (by assumption) rfl (by omega) ?_
  refine w_getR f141_4 (by assumption) rfl (by omega) ?_
  refine w_aloadn f141_7 rfl (by omega) ?_
  refine w_getR f141_8 (by assumption) rfl (by omega) ?_
  refine w_getR f141_11 (by assumption) rfl (by omega) ?_
  refine w_qV f141_14 (Or.inl rfl) rfl (by omega) (okd_of (by assumption)) rfl ⟨Nat.le_of_ble_eq_true rfl, rfl, Nat.le_of_ble_eq_true rfl⟩ (en1 _ _) (s1 sh140.2 sh8.2.1 (by decide) (by decide) (by decide) q1) (fun o9 ho9 => ?_)
  obtain ⟨h2, ⟨o1, c1⟩, rfl⟩ := ho9
  refine w_bok (pv1 _ _) ?_
  refine w_aloadn f141_17 rfl (by omega) ?_
  refine w_getR f141_18 (by assumption) rfl (by omega) ?_
  refine w_getR f141_21 (by assumption) rfl (by omega) ?_
  refine w_getR f141_24 (by assumption) rfl (by omega) ?_
  refine w_iloadn f141_27 rfl ?_
  refine w_iloadn f141_28 rfl ?_
  refine w_iast f141_29 (by assumption) (by omega) ?_
  refine w_aloadn f141_30 rfl (by omega) ?_
  refine w_getR f141_31 (by assumption) rfl (by omega) ?_
  refine w_getR f141_34 (by assumption) rfl (by omega) ?_
  refine w_aloadn f141_37 rfl (by omega) ?_
  refine w_getR f141_38 (by assumption) rfl (by omega) ?_
  refine w_getR f141_41 (by assumption) rfl (by omega) ?_
  refine w_cV f141_44 (Or.inl rfl) rfl (by omega) (okd_of (by assumption)) rfl ⟨Nat.le_of_ble_eq_true rfl, rfl, Nat.le_of_ble_eq_true rfl⟩ (en40 _ _) (s40 sh8.2.2.1 sh140.2 (by decide) (by decide) ((q2.ot o1 (by decide)).fr (fun x y z1 z2 => hput_k (by omega))) (c1.put hi hv) hW.1.2.2.2.2 g1) (pv40 _ _) ?_
  refine w_iconst (v := -1) f141_47 (by decide) ?_
  refine w_ic_ne (t := 55) f141_48 (by decide) (fun c1 => ?_) (fun c1 => ?_)
  · refine w_iconst (v := 0) f141_55 (by decide) ?_
    refine w_zret f141_56 rfl (by decide) ?_
    first | exact ⟨_, (o1.up (by decide) (by decide)).put (by decide) (by decide), ob_t (by assumption)⟩ | exact ⟨_, (o1.up (by decide) (by decide)).put (by decide) (by decide), ob_f (by assumption)⟩
  · refine w_iconst (v := 1) f141_51 (by decide) ?_
    refine w_goto (t := 56) f141_52 (by decide) ?_
    refine w_zret f141_56 rfl (by decide) ?_
    first | exact ⟨_, (o1.up (by decide) (by decide)).put (by decide) (by decide), ob_t (by assumption)⟩ | exact ⟨_, (o1.up (by decide) (by decide)).put (by decide) (by decide), ob_f (by assumption)⟩
end A

/-! the class: what the search tells -/
section A
variable {K : List AKd} {h : Nat → Nat → Int} {R : R4} {σ : Sg} {r d : Nat} {w : Nat → Int} {b : Nat → Int} {n N : Int}
def SeQ (r d : Nat) (R : R4) (h : Nat → Nat → Int) (w : Nat → Int) (v : AV) : Out → Prop := fun o => ∃ h1, (Ot 140 15 h h1 ∧ SRs h1 w ∧ h1 143 0 ≠ 0) ∧ o = (.inl v, (KS r d, h1, R))
theorem Rel.se {h1 g : Nat → Nat → Int} (q : Rel r d N h g) (e : Ot 140 15 h h1) (s : SRs h1 (g 269)) : Rel r d N h1 g := q.q (fun x y z => e x y (by omega)) (fun _ => s)
theorem RelM.la (hM : RelM r d N h w) : Rn (ev 139 0 [AR 1] [] (KS r d, h, R)) (fun o => ∃ h1, (Ot 143 12 h h1 ∧ SRs h1 w ∧ h1 143 0 ≠ 0) ∧ o = (.inl AU, (KS r d, h1, R))) := s139 hM.rd.1 hM.2.1.1.1 hM.2.1.1.2.1 hM.2.2.2.1 hM.2.2.2.2.1 hM.2.2.2.2.2
theorem SRs.u {i : Int} {h0 : Nat → Nat → Int} (q : SRs h w) (hM : RelM r d N h0 w) (hi : 0 ≤ i ∧ i < 10) : h 144 i.toNat = stp w (hereW w) i ∧ h 145 i.toNat = fev w (hereW w) i := by
  have hd := hM.2.1.1
  have hh := hereW_r hd.2.1
  have a := q.2.1 i.toNat (by omega)
  exact ⟨a.1.trans (bfC_U hd.1.ft hh hi).1, a.2.trans (bfC_V hd.1 hh hi)⟩
theorem SRs.t {i : Int} {h0 : Nat → Nat → Int} (q : SRs h w) (hM : RelM r d N h0 w) (hi : 0 ≤ i ∧ i < w 3) : h 146 i.toNat = b2i (ctk w (bfs w (hereW w)) i) := by
  have hd := hM.2.1.1
  have hh := hereW_r hd.2.1
  have h3 := hd.1.1.2.2.2.1
  exact (q.2.2 i.toNat (by omega)).trans ((bfC_J hd.1 hh).1 i hi.1 hi.2)
theorem SRs.dd {h0 : Nat → Nat → Int} (q : SRs h w) (hM : RelM r d N h0 w) : h 143 2 = dcn w (bfs w (hereW w)) (bfs w (hereW w)).2.2.toNat ∧ h 143 3 = sdG w (bfs w (hereW w)) (bfs w (hereW w)).2.2.toNat 0 := by
  have hd := hM.2.1.1
  have hh := hereW_r hd.2.1
  exact ⟨q.1.2.1.trans (bfC_J hd.1 hh).2.1, q.1.2.2.trans (bfC_J hd.1 hh).2.2⟩
theorem SeQ.of {v : AV} {h1 : Nat → Nat → Int} (o : Ot 143 12 h h1) (s : SRs h1 w) (z : h1 143 0 ≠ 0) : SeQ r d R h w v (.inl v, (KS r d, h1, R)) := ⟨h1, ⟨o.up (by decide) (by decide), s, z⟩, rfl⟩
theorem s113 (hM : RelM r d N h w) : Rn (ev 113 0 [AR 1] [] (KS r d, h, R)) (SeQ r d R h w (AI ((bfs w (hereW w)).2.2))) := by
  have hM1 := hM
  have k1 := @kd_1 r d
  have k143 := @kd_143 r d
  refine w_aloadn f113_0 rfl (by omega) ?_
  refine w_qV f113_1 (Or.inl rfl) rfl (by omega) (okd_of (by assumption)) rfl ⟨Nat.le_of_ble_eq_true rfl, rfl, Nat.le_of_ble_eq_true rfl⟩ (en139 _) (hM1.la) (fun o9 ho9 => ?_)
  obtain ⟨h2, ⟨p1, p2, p3⟩, rfl⟩ := ho9
  refine w_bok (pv139 _ _) ?_
  refine w_aloadn f113_4 rfl (by omega) ?_
  refine w_getR f113_5 (by assumption) rfl (by omega) ?_
  refine w_getI f113_8 (by decide) (by assumption) (by exact p2.1.1) ?_
  refine w_iret f113_11 rfl ?_
  exact SeQ.of p1 p2 p3
theorem s118 (hM : RelM r d N h w) : Rn (ev 118 0 [AR 1] [] (KS r d, h, R)) (SeQ r d R h w (AI (dcn w (bfs w (hereW w)) (bfs w (hereW w)).2.2.toNat))) := by
  have hM1 := hM
  have k1 := @kd_1 r d
  have k143 := @kd_143 r d
  refine w_aloadn f118_0 rfl (by omega) ?_
  refine w_qV f118_1 (Or.inl rfl) rfl (by omega) (okd_of (by assumption)) rfl ⟨Nat.le_of_ble_eq_true rfl, rfl, Nat.le_of_ble_eq_true rfl⟩ (en139 _) (hM1.la) (fun o9 ho9 => ?_)
  obtain ⟨h2, ⟨p1, p2, p3⟩, rfl⟩ := ho9
  refine w_bok (pv139 _ _) ?_
  refine w_aloadn f118_4 rfl (by omega) ?_
  refine w_getR f118_5 (by assumption) rfl (by omega) ?_
  refine w_getI f118_8 (by decide) (by assumption) (by exact (p2.dd hM1).1) ?_
  refine w_iret f118_11 rfl ?_
  exact SeQ.of p1 p2 p3
theorem s119 (hM : RelM r d N h w) : Rn (ev 119 0 [AR 1] [] (KS r d, h, R)) (SeQ r d R h w (AI (sdG w (bfs w (hereW w)) (bfs w (hereW w)).2.2.toNat 0))) := by
  have hM1 := hM
  have k1 := @kd_1 r d
  have k143 := @kd_143 r d
  refine w_aloadn f119_0 rfl (by omega) ?_
  refine w_qV f119_1 (Or.inl rfl) rfl (by omega) (okd_of (by assumption)) rfl ⟨Nat.le_of_ble_eq_true rfl, rfl, Nat.le_of_ble_eq_true rfl⟩ (en139 _) (hM1.la) (fun o9 ho9 => ?_)
  obtain ⟨h2, ⟨p1, p2, p3⟩, rfl⟩ := ho9
  refine w_bok (pv139 _ _) ?_
  refine w_aloadn f119_4 rfl (by omega) ?_
  refine w_getR f119_5 (by assumption) rfl (by omega) ?_
  refine w_getI f119_8 (by decide) (by assumption) (by exact (p2.dd hM1).2) ?_
  refine w_iret f119_11 rfl ?_
  exact SeQ.of p1 p2 p3
theorem s114t {i : Int} (hM : RelM r d N h w) (hi : 0 ≤ i ∧ i < w 0) : Rn (ev 114 0 [AR 1, AI i] [] (KS r d, h, R)) (SeQ r d R h w (AI (b2i (stp w (hereW w) i ≠ -1)))) := by
  have hM1 := hM
  have r0 := hM.rd
  obtain ⟨⟨hr, h40⟩, ⟨hd, hx, hz⟩, hn, qr, qs, qS⟩ := hM
  have hl := shRl (r := r) (d := d) r0.1
  obtain ⟨l1, n1, n2, n3, l5, l6, a0, a1, a2, a3, a4, a5, a6, a7, a8⟩ := id hl
  have n11 := n1.1
  have n21 := n2.1
  have n31 := n3.1
  obtain ⟨l51, l52⟩ := id l5
  have k1 := @kd_1 r d
  have k8 := @kd_8 r d
  have k9 := @kd_9 r d
  have k10 := @kd_10 r d
  have k11 := @kd_11 r d
  have k12 := @kd_12 r d
  have k16 := @kd_16 r d
  have k17 := @kd_17 r d
  have k18 := @kd_18 r d
  have k19 := @kd_19 r d
  have k140 := @kd_140 r d
  have k143 := @kd_143 r d
  have e0 : h (r + 1) 2 = w 0 := qr.1.1.1
  have e1 : h (r + 14) 2 = w 1 := qr.1.2.1.1
  have e2 : h (r + 27) 2 = w 2 := qr.1.2.2.1
  have e3 : h r 5 = w 3 := qr.2.2.1
  have e4 : h 11 0 = w 4 := qs.2.1.1
  obtain ⟨v0, v1, v2, v3, v4⟩ := hd.1.1
  obtain ⟨hd1, hd2⟩ := hW_d hd.2.1
  have k144 := @kd_144 r d
  have k145 := @kd_145 r d
  have k146 := @kd_146 r d
  refine w_iloadn f114_0 rfl ?_
  refine w_aloadn f114_1 rfl (by omega) ?_
  refine w_getR f114_2 (by assumption) rfl (by omega) ?_
  refine w_getR f114_5 (by assumption) rfl (by omega) ?_
  refine w_getI f114_8 (by decide) (by assumption) (by (try simp only [hput, hcopy, Nat.reduceEqDiff, Nat.add_left_cancel_iff, Nat.add_right_cancel_iff, Nat.left_eq_add, Nat.add_eq_left, Nat.right_eq_add, Nat.add_eq_right, Nat.reduceAdd, Nat.add_zero, Nat.succ_ne_self, Nat.one_ne_zero, Nat.zero_ne_one, eq_self, and_self, and_true, true_and, and_false, false_and, if_true, if_false, reduceIte, Int.reduceToNat, Int.toNat_natCast, e0, e1, e2, e3, e4]); exact rfl) ?_
  refine w_xS f114_11 (Or.inl rfl) (Nat.le_of_ble_eq_true rfl) rfl rfl ⟨Nat.le_of_ble_eq_true rfl, rfl, Nat.le_of_ble_eq_true rfl⟩ (en132 _ _) rfl rfl (s132) (pv132 _ _) (fun c1 => ?_) (fun c1 => ?_)
  · refine w_aloadn f114_14 rfl (by omega) ?_
    refine w_qV f114_15 (Or.inl rfl) rfl (by omega) (okd_of (by assumption)) rfl ⟨Nat.le_of_ble_eq_true rfl, rfl, Nat.le_of_ble_eq_true rfl⟩ (en139 _) (hM1.la) (fun o9 ho9 => ?_)
    obtain ⟨h2, ⟨p1, p2, p3⟩, rfl⟩ := ho9
    refine w_bok (pv139 _ _) ?_
    refine w_aloadn f114_18 rfl (by omega) ?_
    refine w_getR f114_19 (by assumption) rfl (by omega) ?_
    refine w_getR f114_22 (by assumption) rfl (by omega) ?_
    refine w_iloadn f114_25 rfl ?_
    refine w_iald f114_26 (by assumption) (by omega) (by exact (p2.u hM1 ⟨hi.1, by omega⟩).1) ?_
    refine w_iconst (v := -1) f114_27 (by decide) ?_
    refine w_ic_eq (t := 35) f114_28 (by decide) (fun c2 => ?_) (fun c2 => ?_)
    · refine w_iconst (v := 0) f114_35 (by decide) ?_
      refine w_zret f114_36 rfl (by decide) ?_
      first | exact ⟨h2, ⟨p1.up (by decide) (by decide), p2, p3⟩, ob_t (by assumption)⟩ | exact ⟨h2, ⟨p1.up (by decide) (by decide), p2, p3⟩, ob_f (fun z => z (by assumption))⟩
    · refine w_iconst (v := 1) f114_31 (by decide) ?_
      refine w_goto (t := 36) f114_32 (by decide) ?_
      refine w_zret f114_36 rfl (by decide) ?_
      first | exact ⟨h2, ⟨p1.up (by decide) (by decide), p2, p3⟩, ob_t (by assumption)⟩ | exact ⟨h2, ⟨p1.up (by decide) (by decide), p2, p3⟩, ob_f (fun z => z (by assumption))⟩
  · exact absurd hi (by assumption)
theorem s114f {i : Int} (hM : RelM r d N h w) (hi : ¬ (0 ≤ i ∧ i < w 0)) : ev 114 0 [AR 1, AI i] [] (KS r d, h, R) = some (.inr 0, bump (KS r d, h, R)) := by
  refine Rn.eq ?_
  have r0 := hM.rd
  obtain ⟨⟨hr, h40⟩, ⟨hd, hx, hz⟩, hn, qr, qs, qS⟩ := hM
  have hl := shRl (r := r) (d := d) r0.1
  obtain ⟨l1, n1, n2, n3, l5, l6, a0, a1, a2, a3, a4, a5, a6, a7, a8⟩ := id hl
  have n11 := n1.1
  have n21 := n2.1
  have n31 := n3.1
  obtain ⟨l51, l52⟩ := id l5
  have k1 := @kd_1 r d
  have k8 := @kd_8 r d
  have k9 := @kd_9 r d
  have k10 := @kd_10 r d
  have k11 := @kd_11 r d
  have k12 := @kd_12 r d
  have k16 := @kd_16 r d
  have k17 := @kd_17 r d
  have k18 := @kd_18 r d
  have k19 := @kd_19 r d
  have k140 := @kd_140 r d
  have k143 := @kd_143 r d
  have e0 : h (r + 1) 2 = w 0 := qr.1.1.1
  have e1 : h (r + 14) 2 = w 1 := qr.1.2.1.1
  have e2 : h (r + 27) 2 = w 2 := qr.1.2.2.1
  have e3 : h r 5 = w 3 := qr.2.2.1
  have e4 : h 11 0 = w 4 := qs.2.1.1
  obtain ⟨v0, v1, v2, v3, v4⟩ := hd.1.1
  obtain ⟨hd1, hd2⟩ := hW_d hd.2.1
  refine w_iloadn f114_0 rfl ?_
  refine w_aloadn f114_1 rfl (by omega) ?_
  refine w_getR f114_2 (by assumption) rfl (by omega) ?_
  refine w_getR f114_5 (by assumption) rfl (by omega) ?_
  refine w_getI f114_8 (by decide) (by assumption) (by (try simp only [hput, hcopy, Nat.reduceEqDiff, Nat.add_left_cancel_iff, Nat.add_right_cancel_iff, Nat.left_eq_add, Nat.add_eq_left, Nat.right_eq_add, Nat.add_eq_right, Nat.reduceAdd, Nat.add_zero, Nat.succ_ne_self, Nat.one_ne_zero, Nat.zero_ne_one, eq_self, and_self, and_true, true_and, and_false, false_and, if_true, if_false, reduceIte, Int.reduceToNat, Int.toNat_natCast, e0, e1, e2, e3, e4]); exact rfl) ?_
  refine w_xS f114_11 (Or.inl rfl) (Nat.le_of_ble_eq_true rfl) rfl rfl ⟨Nat.le_of_ble_eq_true rfl, rfl, Nat.le_of_ble_eq_true rfl⟩ (en132 _ _) rfl rfl (s132) (pv132 _ _) (fun c1 => ?_) (fun c1 => ?_)
  · exact absurd (by assumption) hi
  · rfl
theorem s115t {i : Int} (hM : RelM r d N h w) (hi : 0 ≤ i ∧ i < w 3) : Rn (ev 115 0 [AR 1, AI i] [] (KS r d, h, R)) (SeQ r d R h w (AI (b2i (ctk w (bfs w (hereW w)) i)))) := by
  have hM1 := hM
  have r0 := hM.rd
  obtain ⟨⟨hr, h40⟩, ⟨hd, hx, hz⟩, hn, qr, qs, qS⟩ := hM
  have hl := shRl (r := r) (d := d) r0.1
  obtain ⟨l1, n1, n2, n3, l5, l6, a0, a1, a2, a3, a4, a5, a6, a7, a8⟩ := id hl
  have n11 := n1.1
  have n21 := n2.1
  have n31 := n3.1
  obtain ⟨l51, l52⟩ := id l5
  have k1 := @kd_1 r d
  have k8 := @kd_8 r d
  have k9 := @kd_9 r d
  have k10 := @kd_10 r d
  have k11 := @kd_11 r d
  have k12 := @kd_12 r d
  have k16 := @kd_16 r d
  have k17 := @kd_17 r d
  have k18 := @kd_18 r d
  have k19 := @kd_19 r d
  have k140 := @kd_140 r d
  have k143 := @kd_143 r d
  have e0 : h (r + 1) 2 = w 0 := qr.1.1.1
  have e1 : h (r + 14) 2 = w 1 := qr.1.2.1.1
  have e2 : h (r + 27) 2 = w 2 := qr.1.2.2.1
  have e3 : h r 5 = w 3 := qr.2.2.1
  have e4 : h 11 0 = w 4 := qs.2.1.1
  obtain ⟨v0, v1, v2, v3, v4⟩ := hd.1.1
  obtain ⟨hd1, hd2⟩ := hW_d hd.2.1
  have k144 := @kd_144 r d
  have k145 := @kd_145 r d
  have k146 := @kd_146 r d
  refine w_iloadn f115_0 rfl ?_
  refine w_aloadn f115_1 rfl (by omega) ?_
  refine w_getR f115_2 (by assumption) rfl (by omega) ?_
  refine w_getI f115_5 (by decide) (by assumption) (by (try simp only [hput, hcopy, Nat.reduceEqDiff, Nat.add_left_cancel_iff, Nat.add_right_cancel_iff, Nat.left_eq_add, Nat.add_eq_left, Nat.right_eq_add, Nat.add_eq_right, Nat.reduceAdd, Nat.add_zero, Nat.succ_ne_self, Nat.one_ne_zero, Nat.zero_ne_one, eq_self, and_self, and_true, true_and, and_false, false_and, if_true, if_false, reduceIte, Int.reduceToNat, Int.toNat_natCast, e0, e1, e2, e3, e4]); exact rfl) ?_
  refine w_xS f115_8 (Or.inl rfl) (Nat.le_of_ble_eq_true rfl) rfl rfl ⟨Nat.le_of_ble_eq_true rfl, rfl, Nat.le_of_ble_eq_true rfl⟩ (en132 _ _) rfl rfl (s132) (pv132 _ _) (fun c1 => ?_) (fun c1 => ?_)
  · refine w_aloadn f115_11 rfl (by omega) ?_
    refine w_qV f115_12 (Or.inl rfl) rfl (by omega) (okd_of (by assumption)) rfl ⟨Nat.le_of_ble_eq_true rfl, rfl, Nat.le_of_ble_eq_true rfl⟩ (en139 _) (hM1.la) (fun o9 ho9 => ?_)
    obtain ⟨h2, ⟨p1, p2, p3⟩, rfl⟩ := ho9
    refine w_bok (pv139 _ _) ?_
    refine w_aloadn f115_15 rfl (by omega) ?_
    refine w_getR f115_16 (by assumption) rfl (by omega) ?_
    refine w_getR f115_19 (by assumption) rfl (by omega) ?_
    refine w_iloadn f115_22 rfl ?_
    refine w_bald f115_23 (by assumption) (by omega) (by exact p2.t hM1 hi) ?_
    refine w_zret f115_24 rfl (by exact b2i_01 _) ?_
    exact SeQ.of p1 p2 p3
  · exact absurd hi (by assumption)
theorem s115f {i : Int} (hM : RelM r d N h w) (hi : ¬ (0 ≤ i ∧ i < w 3)) : ev 115 0 [AR 1, AI i] [] (KS r d, h, R) = some (.inr 0, bump (KS r d, h, R)) := by
  refine Rn.eq ?_
  have r0 := hM.rd
  obtain ⟨⟨hr, h40⟩, ⟨hd, hx, hz⟩, hn, qr, qs, qS⟩ := hM
  have hl := shRl (r := r) (d := d) r0.1
  obtain ⟨l1, n1, n2, n3, l5, l6, a0, a1, a2, a3, a4, a5, a6, a7, a8⟩ := id hl
  have n11 := n1.1
  have n21 := n2.1
  have n31 := n3.1
  obtain ⟨l51, l52⟩ := id l5
  have k1 := @kd_1 r d
  have k8 := @kd_8 r d
  have k9 := @kd_9 r d
  have k10 := @kd_10 r d
  have k11 := @kd_11 r d
  have k12 := @kd_12 r d
  have k16 := @kd_16 r d
  have k17 := @kd_17 r d
  have k18 := @kd_18 r d
  have k19 := @kd_19 r d
  have k140 := @kd_140 r d
  have k143 := @kd_143 r d
  have e0 : h (r + 1) 2 = w 0 := qr.1.1.1
  have e1 : h (r + 14) 2 = w 1 := qr.1.2.1.1
  have e2 : h (r + 27) 2 = w 2 := qr.1.2.2.1
  have e3 : h r 5 = w 3 := qr.2.2.1
  have e4 : h 11 0 = w 4 := qs.2.1.1
  obtain ⟨v0, v1, v2, v3, v4⟩ := hd.1.1
  obtain ⟨hd1, hd2⟩ := hW_d hd.2.1
  refine w_iloadn f115_0 rfl ?_
  refine w_aloadn f115_1 rfl (by omega) ?_
  refine w_getR f115_2 (by assumption) rfl (by omega) ?_
  refine w_getI f115_5 (by decide) (by assumption) (by (try simp only [hput, hcopy, Nat.reduceEqDiff, Nat.add_left_cancel_iff, Nat.add_right_cancel_iff, Nat.left_eq_add, Nat.add_eq_left, Nat.right_eq_add, Nat.add_eq_right, Nat.reduceAdd, Nat.add_zero, Nat.succ_ne_self, Nat.one_ne_zero, Nat.zero_ne_one, eq_self, and_self, and_true, true_and, and_false, false_and, if_true, if_false, reduceIte, Int.reduceToNat, Int.toNat_natCast, e0, e1, e2, e3, e4]); exact rfl) ?_
  refine w_xS f115_8 (Or.inl rfl) (Nat.le_of_ble_eq_true rfl) rfl rfl ⟨Nat.le_of_ble_eq_true rfl, rfl, Nat.le_of_ble_eq_true rfl⟩ (en132 _ _) rfl rfl (s132) (pv132 _ _) (fun c1 => ?_) (fun c1 => ?_)
  · exact absurd (by assumption) hi
  · rfl
theorem s116t {i : Int} (hM : RelM r d N h w) (hi : 0 ≤ i ∧ i < w 0) : Rn (ev 116 0 [AR 1, AI i] [] (KS r d, h, R)) (SeQ r d R h w (AI (stp w (hereW w) i))) := by
  have hM1 := hM
  have r0 := hM.rd
  obtain ⟨⟨hr, h40⟩, ⟨hd, hx, hz⟩, hn, qr, qs, qS⟩ := hM
  have hl := shRl (r := r) (d := d) r0.1
  obtain ⟨l1, n1, n2, n3, l5, l6, a0, a1, a2, a3, a4, a5, a6, a7, a8⟩ := id hl
  have n11 := n1.1
  have n21 := n2.1
  have n31 := n3.1
  obtain ⟨l51, l52⟩ := id l5
  have k1 := @kd_1 r d
  have k8 := @kd_8 r d
  have k9 := @kd_9 r d
  have k10 := @kd_10 r d
  have k11 := @kd_11 r d
  have k12 := @kd_12 r d
  have k16 := @kd_16 r d
  have k17 := @kd_17 r d
  have k18 := @kd_18 r d
  have k19 := @kd_19 r d
  have k140 := @kd_140 r d
  have k143 := @kd_143 r d
  have e0 : h (r + 1) 2 = w 0 := qr.1.1.1
  have e1 : h (r + 14) 2 = w 1 := qr.1.2.1.1
  have e2 : h (r + 27) 2 = w 2 := qr.1.2.2.1
  have e3 : h r 5 = w 3 := qr.2.2.1
  have e4 : h 11 0 = w 4 := qs.2.1.1
  obtain ⟨v0, v1, v2, v3, v4⟩ := hd.1.1
  obtain ⟨hd1, hd2⟩ := hW_d hd.2.1
  have k144 := @kd_144 r d
  have k145 := @kd_145 r d
  have k146 := @kd_146 r d
  refine w_iloadn f116_0 rfl ?_
  refine w_aloadn f116_1 rfl (by omega) ?_
  refine w_getR f116_2 (by assumption) rfl (by omega) ?_
  refine w_getR f116_5 (by assumption) rfl (by omega) ?_
  refine w_getI f116_8 (by decide) (by assumption) (by (try simp only [hput, hcopy, Nat.reduceEqDiff, Nat.add_left_cancel_iff, Nat.add_right_cancel_iff, Nat.left_eq_add, Nat.add_eq_left, Nat.right_eq_add, Nat.add_eq_right, Nat.reduceAdd, Nat.add_zero, Nat.succ_ne_self, Nat.one_ne_zero, Nat.zero_ne_one, eq_self, and_self, and_true, true_and, and_false, false_and, if_true, if_false, reduceIte, Int.reduceToNat, Int.toNat_natCast, e0, e1, e2, e3, e4]); exact rfl) ?_
  refine w_xS f116_11 (Or.inl rfl) (Nat.le_of_ble_eq_true rfl) rfl rfl ⟨Nat.le_of_ble_eq_true rfl, rfl, Nat.le_of_ble_eq_true rfl⟩ (en132 _ _) rfl rfl (s132) (pv132 _ _) (fun c1 => ?_) (fun c1 => ?_)
  · refine w_aloadn f116_14 rfl (by omega) ?_
    refine w_qV f116_15 (Or.inl rfl) rfl (by omega) (okd_of (by assumption)) rfl ⟨Nat.le_of_ble_eq_true rfl, rfl, Nat.le_of_ble_eq_true rfl⟩ (en139 _) (hM1.la) (fun o9 ho9 => ?_)
    obtain ⟨h2, ⟨p1, p2, p3⟩, rfl⟩ := ho9
    refine w_bok (pv139 _ _) ?_
    refine w_aloadn f116_18 rfl (by omega) ?_
    refine w_getR f116_19 (by assumption) rfl (by omega) ?_
    refine w_getR f116_22 (by assumption) rfl (by omega) ?_
    refine w_iloadn f116_25 rfl ?_
    refine w_iald f116_26 (by assumption) (by omega) (by exact (p2.u hM1 ⟨hi.1, by omega⟩).1) ?_
    refine w_iret f116_27 rfl ?_
    exact SeQ.of p1 p2 p3
  · exact absurd hi (by assumption)
theorem s116f {i : Int} (hM : RelM r d N h w) (hi : ¬ (0 ≤ i ∧ i < w 0)) : ev 116 0 [AR 1, AI i] [] (KS r d, h, R) = some (.inr 0, bump (KS r d, h, R)) := by
  refine Rn.eq ?_
  have r0 := hM.rd
  obtain ⟨⟨hr, h40⟩, ⟨hd, hx, hz⟩, hn, qr, qs, qS⟩ := hM
  have hl := shRl (r := r) (d := d) r0.1
  obtain ⟨l1, n1, n2, n3, l5, l6, a0, a1, a2, a3, a4, a5, a6, a7, a8⟩ := id hl
  have n11 := n1.1
  have n21 := n2.1
  have n31 := n3.1
  obtain ⟨l51, l52⟩ := id l5
  have k1 := @kd_1 r d
  have k8 := @kd_8 r d
  have k9 := @kd_9 r d
  have k10 := @kd_10 r d
  have k11 := @kd_11 r d
  have k12 := @kd_12 r d
  have k16 := @kd_16 r d
  have k17 := @kd_17 r d
  have k18 := @kd_18 r d
  have k19 := @kd_19 r d
  have k140 := @kd_140 r d
  have k143 := @kd_143 r d
  have e0 : h (r + 1) 2 = w 0 := qr.1.1.1
  have e1 : h (r + 14) 2 = w 1 := qr.1.2.1.1
  have e2 : h (r + 27) 2 = w 2 := qr.1.2.2.1
  have e3 : h r 5 = w 3 := qr.2.2.1
  have e4 : h 11 0 = w 4 := qs.2.1.1
  obtain ⟨v0, v1, v2, v3, v4⟩ := hd.1.1
  obtain ⟨hd1, hd2⟩ := hW_d hd.2.1
  refine w_iloadn f116_0 rfl ?_
  refine w_aloadn f116_1 rfl (by omega) ?_
  refine w_getR f116_2 (by assumption) rfl (by omega) ?_
  refine w_getR f116_5 (by assumption) rfl (by omega) ?_
  refine w_getI f116_8 (by decide) (by assumption) (by (try simp only [hput, hcopy, Nat.reduceEqDiff, Nat.add_left_cancel_iff, Nat.add_right_cancel_iff, Nat.left_eq_add, Nat.add_eq_left, Nat.right_eq_add, Nat.add_eq_right, Nat.reduceAdd, Nat.add_zero, Nat.succ_ne_self, Nat.one_ne_zero, Nat.zero_ne_one, eq_self, and_self, and_true, true_and, and_false, false_and, if_true, if_false, reduceIte, Int.reduceToNat, Int.toNat_natCast, e0, e1, e2, e3, e4]); exact rfl) ?_
  refine w_xS f116_11 (Or.inl rfl) (Nat.le_of_ble_eq_true rfl) rfl rfl ⟨Nat.le_of_ble_eq_true rfl, rfl, Nat.le_of_ble_eq_true rfl⟩ (en132 _ _) rfl rfl (s132) (pv132 _ _) (fun c1 => ?_) (fun c1 => ?_)
  · exact absurd (by assumption) hi
  · rfl
theorem s117t {i : Int} (hM : RelM r d N h w) (hi : 0 ≤ i ∧ i < w 0) : Rn (ev 117 0 [AR 1, AI i] [] (KS r d, h, R)) (SeQ r d R h w (AI (fev w (hereW w) i))) := by
  have hM1 := hM
  have r0 := hM.rd
  obtain ⟨⟨hr, h40⟩, ⟨hd, hx, hz⟩, hn, qr, qs, qS⟩ := hM
  have hl := shRl (r := r) (d := d) r0.1
  obtain ⟨l1, n1, n2, n3, l5, l6, a0, a1, a2, a3, a4, a5, a6, a7, a8⟩ := id hl
  have n11 := n1.1
  have n21 := n2.1
  have n31 := n3.1
  obtain ⟨l51, l52⟩ := id l5
  have k1 := @kd_1 r d
  have k8 := @kd_8 r d
  have k9 := @kd_9 r d
  have k10 := @kd_10 r d
  have k11 := @kd_11 r d
  have k12 := @kd_12 r d
  have k16 := @kd_16 r d
  have k17 := @kd_17 r d
  have k18 := @kd_18 r d
  have k19 := @kd_19 r d
  have k140 := @kd_140 r d
  have k143 := @kd_143 r d
  have e0 : h (r + 1) 2 = w 0 := qr.1.1.1
  have e1 : h (r + 14) 2 = w 1 := qr.1.2.1.1
  have e2 : h (r + 27) 2 = w 2 := qr.1.2.2.1
  have e3 : h r 5 = w 3 := qr.2.2.1
  have e4 : h 11 0 = w 4 := qs.2.1.1
  obtain ⟨v0, v1, v2, v3, v4⟩ := hd.1.1
  obtain ⟨hd1, hd2⟩ := hW_d hd.2.1
  have k144 := @kd_144 r d
  have k145 := @kd_145 r d
  have k146 := @kd_146 r d
  refine w_iloadn f117_0 rfl ?_
  refine w_aloadn f117_1 rfl (by omega) ?_
  refine w_getR f117_2 (by assumption) rfl (by omega) ?_
  refine w_getR f117_5 (by assumption) rfl (by omega) ?_
  refine w_getI f117_8 (by decide) (by assumption) (by (try simp only [hput, hcopy, Nat.reduceEqDiff, Nat.add_left_cancel_iff, Nat.add_right_cancel_iff, Nat.left_eq_add, Nat.add_eq_left, Nat.right_eq_add, Nat.add_eq_right, Nat.reduceAdd, Nat.add_zero, Nat.succ_ne_self, Nat.one_ne_zero, Nat.zero_ne_one, eq_self, and_self, and_true, true_and, and_false, false_and, if_true, if_false, reduceIte, Int.reduceToNat, Int.toNat_natCast, e0, e1, e2, e3, e4]); exact rfl) ?_
  refine w_xS f117_11 (Or.inl rfl) (Nat.le_of_ble_eq_true rfl) rfl rfl ⟨Nat.le_of_ble_eq_true rfl, rfl, Nat.le_of_ble_eq_true rfl⟩ (en132 _ _) rfl rfl (s132) (pv132 _ _) (fun c1 => ?_) (fun c1 => ?_)
  · refine w_aloadn f117_14 rfl (by omega) ?_
    refine w_qV f117_15 (Or.inl rfl) rfl (by omega) (okd_of (by assumption)) rfl ⟨Nat.le_of_ble_eq_true rfl, rfl, Nat.le_of_ble_eq_true rfl⟩ (en139 _) (hM1.la) (fun o9 ho9 => ?_)
    obtain ⟨h2, ⟨p1, p2, p3⟩, rfl⟩ := ho9
    refine w_bok (pv139 _ _) ?_
    refine w_aloadn f117_18 rfl (by omega) ?_
    refine w_getR f117_19 (by assumption) rfl (by omega) ?_
    refine w_getR f117_22 (by assumption) rfl (by omega) ?_
    refine w_iloadn f117_25 rfl ?_
    refine w_iald f117_26 (by assumption) (by omega) (by exact (p2.u hM1 ⟨hi.1, by omega⟩).2) ?_
    refine w_iret f117_27 rfl ?_
    exact SeQ.of p1 p2 p3
  · exact absurd hi (by assumption)
theorem s117f {i : Int} (hM : RelM r d N h w) (hi : ¬ (0 ≤ i ∧ i < w 0)) : ev 117 0 [AR 1, AI i] [] (KS r d, h, R) = some (.inr 0, bump (KS r d, h, R)) := by
  refine Rn.eq ?_
  have r0 := hM.rd
  obtain ⟨⟨hr, h40⟩, ⟨hd, hx, hz⟩, hn, qr, qs, qS⟩ := hM
  have hl := shRl (r := r) (d := d) r0.1
  obtain ⟨l1, n1, n2, n3, l5, l6, a0, a1, a2, a3, a4, a5, a6, a7, a8⟩ := id hl
  have n11 := n1.1
  have n21 := n2.1
  have n31 := n3.1
  obtain ⟨l51, l52⟩ := id l5
  have k1 := @kd_1 r d
  have k8 := @kd_8 r d
  have k9 := @kd_9 r d
  have k10 := @kd_10 r d
  have k11 := @kd_11 r d
  have k12 := @kd_12 r d
  have k16 := @kd_16 r d
  have k17 := @kd_17 r d
  have k18 := @kd_18 r d
  have k19 := @kd_19 r d
  have k140 := @kd_140 r d
  have k143 := @kd_143 r d
  have e0 : h (r + 1) 2 = w 0 := qr.1.1.1
  have e1 : h (r + 14) 2 = w 1 := qr.1.2.1.1
  have e2 : h (r + 27) 2 = w 2 := qr.1.2.2.1
  have e3 : h r 5 = w 3 := qr.2.2.1
  have e4 : h 11 0 = w 4 := qs.2.1.1
  obtain ⟨v0, v1, v2, v3, v4⟩ := hd.1.1
  obtain ⟨hd1, hd2⟩ := hW_d hd.2.1
  refine w_iloadn f117_0 rfl ?_
  refine w_aloadn f117_1 rfl (by omega) ?_
  refine w_getR f117_2 (by assumption) rfl (by omega) ?_
  refine w_getR f117_5 (by assumption) rfl (by omega) ?_
  refine w_getI f117_8 (by decide) (by assumption) (by (try simp only [hput, hcopy, Nat.reduceEqDiff, Nat.add_left_cancel_iff, Nat.add_right_cancel_iff, Nat.left_eq_add, Nat.add_eq_left, Nat.right_eq_add, Nat.add_eq_right, Nat.reduceAdd, Nat.add_zero, Nat.succ_ne_self, Nat.one_ne_zero, Nat.zero_ne_one, eq_self, and_self, and_true, true_and, and_false, false_and, if_true, if_false, reduceIte, Int.reduceToNat, Int.toNat_natCast, e0, e1, e2, e3, e4]); exact rfl) ?_
  refine w_xS f117_11 (Or.inl rfl) (Nat.le_of_ble_eq_true rfl) rfl rfl ⟨Nat.le_of_ble_eq_true rfl, rfl, Nat.le_of_ble_eq_true rfl⟩ (en132 _ _) rfl rfl (s132) (pv132 _ _) (fun c1 => ?_) (fun c1 => ?_)
  · exact absurd (by assumption) hi
  · rfl
theorem smG_z {f : Nat → Int} {x : Int} : ∀ (m : Nat) (k a : Int), wr a = a → (∀ i, k ≤ i → i < k + m → f (x + i).toNat = 0) → smG f x m k a = a
  | 0, _, _, _, _ => rfl
  | m + 1, k, a, ha, h => by
    simp only [smG]
    rw [h k (by omega) (by omega), Int.add_zero, ha]
    exact smG_z m (k + 1) a ha (fun i h1 h2 => h i (by omega) (by omega))
theorem wr_wr {x : Int} : wr (wr x) = wr x := by unfold wr; omega
theorem smG_ap {f : Nat → Int} {x : Int} : ∀ (m p : Nat) (k a : Int), wr a = a → (∀ i, k + m ≤ i → i < k + m + p → f (x + i).toNat = 0) → smG f x (m + p) k a = smG f x m k a
  | 0, p, k, a, ha, h => by
    rw [Nat.zero_add]
    exact smG_z p k a ha (fun i h1 h2 => h i (by omega) (by omega))
  | m + 1, p, k, a, ha, h => by
    rw [Nat.succ_add]
    simp only [smG]
    exact smG_ap m p (k + 1) _ wr_wr (fun i h1 h2 => h i (by omega) (by omega))
theorem s120 (hM : RelM r d N h w) : Rn (ev 120 0 [AR 1] [] (KS r d, h, R)) (SeQ r d R h w (AI (b2i (isC w)))) := by
  have hM1 := hM
  have r0 := hM.rd
  obtain ⟨⟨hr, h40⟩, ⟨hd, hx, hz⟩, hn, qr, qs, qS⟩ := hM
  have hl := shRl (r := r) (d := d) r0.1
  obtain ⟨l1, n1, n2, n3, l5, l6, a0, a1, a2, a3, a4, a5, a6, a7, a8⟩ := id hl
  have n11 := n1.1
  have n21 := n2.1
  have n31 := n3.1
  obtain ⟨l51, l52⟩ := id l5
  have k1 := @kd_1 r d
  have k8 := @kd_8 r d
  have k9 := @kd_9 r d
  have k10 := @kd_10 r d
  have k11 := @kd_11 r d
  have k12 := @kd_12 r d
  have k16 := @kd_16 r d
  have k17 := @kd_17 r d
  have k18 := @kd_18 r d
  have k19 := @kd_19 r d
  have k140 := @kd_140 r d
  have k143 := @kd_143 r d
  have e0 : h (r + 1) 2 = w 0 := qr.1.1.1
  have e1 : h (r + 14) 2 = w 1 := qr.1.2.1.1
  have e2 : h (r + 27) 2 = w 2 := qr.1.2.2.1
  have e3 : h r 5 = w 3 := qr.2.2.1
  have e4 : h 11 0 = w 4 := qs.2.1.1
  obtain ⟨v0, v1, v2, v3, v4⟩ := hd.1.1
  obtain ⟨hd1, hd2⟩ := hW_d hd.2.1
  have v18 := hd.2.2.1
  have g1 : ∀ i, 0 ≤ i → i < w 4 → 0 ≤ iv w i 1 ∧ iv w i 1 < 3 := fun i z1 z2 => by
    have := (hd.1.2.2.2.2 i z1 z2).2.1
    omega
  have hh := hereW_r hd.2.1
  have t69 : ∀ f : Nat → Int, (∀ t : Nat, t < 24 → f t = w (69 + t)) → smG f 0 24 0 0 = smG w 69 (w 3).toNat 0 0 := fun f q => by
    rw [smG_ag (g := w) (y := 69) 24 0 0 (fun i i1 i2 => by rw [show (0 : Int) + i = i by omega]; exact (q i.toNat (by omega)).trans (congrArg w (by omega))), show 24 = (w 3).toNat + (24 - (w 3).toNat) by omega]
    exact smG_ap _ _ 0 0 (by decide) (fun i i1 i2 => by rw [show (69 + i).toNat = 69 + i.toNat by omega]; exact hx.2.1 i.toNat (by omega) (by omega))
  have t59 : ∀ f : Nat → Int, (∀ t : Nat, t < 10 → f t = w (59 + t)) → smG f 0 10 0 0 = smG w 59 (w 0).toNat 0 0 := fun f q => by
    rw [smG_ag (g := w) (y := 59) 10 0 0 (fun i i1 i2 => by rw [show (0 : Int) + i = i by omega]; exact (q i.toNat (by omega)).trans (congrArg w (by omega))), show 10 = (w 0).toNat + (10 - (w 0).toNat) by omega]
    exact smG_ap _ _ 0 0 (by decide) (fun i i1 i2 => by rw [show (59 + i).toNat = 59 + i.toNat by omega]; exact hx.2.2 i.toNat (by omega) (by omega))
  have t12 : ∀ f : Nat → Int, (f 0 = 0 ∧ ∀ t : Nat, 1 ≤ t → t < 5 → f t = w (12 + t)) → smG f 0 5 0 0 = wr (wr (wr (wr (0 + w 13) + w 14) + w 15) + w 16) := fun f q => by
    show wr (wr (wr (wr (wr (0 + f 0) + f 1) + f 2) + f 3) + f 4) = _
    rw [q.1, q.2 1 (by decide) (by decide), q.2 2 (by decide) (by decide), q.2 3 (by decide) (by decide), q.2 4 (by decide) (by decide)]
    rfl
  have p40 : ∀ h2, Ot 143 12 h h2 → RCf h2 9 (hereW w) ∧ RIv h2 11 w ∧ RCv h2 16 w ∧ RTr h2 r w ∧ h2 (r + 14) 2 = w 1 := fun h2 o => ⟨qs.1.ot o (by decide), qs.2.1.ot o (by decide), qs.2.2.ot o (by decide), qr.2.2.ot o (by omega), (o _ _ (by omega)).trans e1⟩
  have p11 : ∀ h2, Ot 143 12 h h2 → ev 11 0 [AR 16] [] (KS r d, h2, R) = some (.inl (AI (b2i (smG w 69 (w 3).toNat 0 0 = w 12 ∧ wr (wr (wr (wr (0 + w 13) + w 14) + w 15) + w 16) = w 17 ∧ smG w 59 (w 0).toNat 0 0 = wr (w 12 + 1)))), (KS r d, h2, R)) := fun h2 o => by
    obtain ⟨⟨a1, a2, a3⟩, a4, a5, a6, a7⟩ := (p40 h2 o).2.2.1
    have z := s11 (h := h2) (R := R) (sh8 (r := r) (d := d)).2.2.2 (by decide)
    rw [show smG (h2 (8 + 8 + 1)) 0 24 0 0 = smG w 69 (w 3).toNat 0 0 from t69 _ a4, show smG (h2 (8 + 8 + 2)) 0 10 0 0 = smG w 59 (w 0).toNat 0 0 from t59 _ a5, show smG (h2 (8 + 8 + 3)) 0 5 0 0 = wr (wr (wr (wr (0 + w 13) + w 14) + w 15) + w 16) from t12 _ a6, show h2 (8 + 8) 3 = w 12 from a1, show h2 (8 + 8) 4 = w 17 from a2] at z
    exact z
  have fin : ∀ h2 h3, Ot 143 12 h h2 → SRs h2 w → (Ot 143 12 h2 h3 ∧ ∀ x y, 143 ≤ x → x ≤ 149 → x ≠ 147 → x ≠ 148 → h3 x y = h2 x y) → h2 143 0 ≠ 0 → Ot 140 15 h h3 ∧ SRs h3 w ∧ h3 143 0 ≠ 0 := fun h2 h3 o s f z => ⟨(o.tr f.1).up (by decide) (by decide), s.fr (fun x y q => f.2 x y (by omega) (by omega) (by omega) (by omega)), by rw [f.2 143 0 (by decide) (by decide) (by decide) (by decide)]; exact z⟩
  refine w_aloadn f120_0 rfl (by omega) ?_
  refine w_qV f120_1 (Or.inl rfl) rfl (by omega) (okd_of (by assumption)) rfl ⟨Nat.le_of_ble_eq_true rfl, rfl, Nat.le_of_ble_eq_true rfl⟩ (en139 _) (hM1.la) (fun o9 ho9 => ?_)
  obtain ⟨h2, ⟨p1, p2, p3⟩, rfl⟩ := ho9
  refine w_bok (pv139 _ _) ?_
  refine w_aloadn f120_4 rfl (by omega) ?_
  refine w_getR f120_5 (by assumption) rfl (by omega) ?_
  refine w_getR f120_8 (by assumption) rfl (by omega) ?_
  refine w_aloadn f120_11 rfl (by omega) ?_
  refine w_getR f120_12 (by assumption) rfl (by omega) ?_
  refine w_getR f120_15 (by assumption) rfl (by omega) ?_
  refine w_cV f120_18 (Or.inl rfl) rfl (by omega) (okd_of (by assumption)) rfl ⟨Nat.le_of_ble_eq_true rfl, rfl, Nat.le_of_ble_eq_true rfl⟩ (en40 _ _) (s40 sh8.2.2.1 sh8.2.1 (by decide) (by decide) (p40 _ p1).2.1 (p40 _ p1).1 v4 g1) (pv40 _ _) ?_
  refine w_iconst (v := -1) f120_21 (by decide) ?_
  refine w_ic_ne (t := 77) f120_22 (by decide) (fun c1 => ?_) (fun c1 => ?_)
  · refine w_iconst (v := 0) f120_77 (by decide) ?_
    refine w_zret f120_78 rfl (by decide) ?_
    first | exact ⟨h2, ⟨p1.up (by decide) (by decide), p2, p3⟩, ob_f (fun z => by unfold isC at z; omega)⟩ | exact ⟨h3, fin _ _ p1 p2 f p3, ob_f (fun z => by unfold isC at z; omega)⟩ | exact ⟨h3, fin _ _ p1 p2 f p3, ob_t ⟨by omega, by omega, by omega, by omega, by omega⟩⟩
  · refine w_aloadn f120_25 rfl (by omega) ?_
    refine w_getR f120_26 (by assumption) rfl (by omega) ?_
    refine w_getR f120_29 (by assumption) rfl (by omega) ?_
    refine w_cV f120_32 (Or.inl rfl) rfl (by omega) (okd_of (by assumption)) rfl ⟨Nat.le_of_ble_eq_true rfl, rfl, Nat.le_of_ble_eq_true rfl⟩ (en11 _) (p11 _ p1) (pv11 _ _) ?_
    refine w_ifb_eq (t := 77) f120_35 (by decide) (fun c2 => ?_) (fun c2 => ?_)
    · refine w_iconst (v := 0) f120_77 (by decide) ?_
      refine w_zret f120_78 rfl (by decide) ?_
      first | exact ⟨h2, ⟨p1.up (by decide) (by decide), p2, p3⟩, ob_f (fun z => by unfold isC at z; omega)⟩ | exact ⟨h3, fin _ _ p1 p2 f p3, ob_f (fun z => by unfold isC at z; omega)⟩ | exact ⟨h3, fin _ _ p1 p2 f p3, ob_t ⟨by omega, by omega, by omega, by omega, by omega⟩⟩
    · refine w_aloadn f120_38 rfl (by omega) ?_
      refine w_getR f120_39 (by assumption) rfl (by omega) ?_
      refine w_getI f120_42 (by decide) (by assumption) (by exact p2.1.1) ?_
      refine w_aloadn f120_45 rfl (by omega) ?_
      refine w_getR f120_46 (by assumption) rfl (by omega) ?_
      refine w_aloadn f120_49 rfl (by omega) ?_
      refine w_getR f120_50 (by assumption) rfl (by omega) ?_
      refine w_aloadn f120_53 rfl (by omega) ?_
      refine w_getR f120_54 (by assumption) rfl (by omega) ?_
      refine w_getR f120_57 (by assumption) rfl (by omega) ?_
      refine w_aloadn f120_60 rfl (by omega) ?_
      refine w_getR f120_61 (by assumption) rfl (by omega) ?_
      refine w_getR f120_64 (by assumption) rfl (by omega) ?_
      refine w_qV f120_67 (Or.inl rfl) rfl (by omega) (okd_of (by assumption)) rfl ⟨Nat.le_of_ble_eq_true rfl, rfl, Nat.le_of_ble_eq_true rfl⟩ (en64 _ _ _ _) (s64 (i := 11) (j := 9) hl sh8.2.2.1 sh8.2.1 (by omega) (by decide) (by decide) (by decide) (by decide) hd.1 (p40 _ p1).2.2.2.1 (p40 _ p1).2.1 (p40 _ p1).2.2.2.2 rfl hh (p40 _ p1).1) (fun o9 ho9 => ?_)
      obtain ⟨h3, ⟨f, -⟩, rfl⟩ := ho9
      refine w_bok (pv64 _ _) ?_
      refine w_ic_ne (t := 77) f120_70 (by decide) (fun c3 => ?_) (fun c3 => ?_)
      · refine w_iconst (v := 0) f120_77 (by decide) ?_
        refine w_zret f120_78 rfl (by decide) ?_
        first | exact ⟨h2, ⟨p1.up (by decide) (by decide), p2, p3⟩, ob_f (fun z => by unfold isC at z; omega)⟩ | exact ⟨h3, fin _ _ p1 p2 f p3, ob_f (fun z => by unfold isC at z; omega)⟩ | exact ⟨h3, fin _ _ p1 p2 f p3, ob_t ⟨by omega, by omega, by omega, by omega, by omega⟩⟩
      · refine w_iconst (v := 1) f120_73 (by decide) ?_
        refine w_goto (t := 78) f120_74 (by decide) ?_
        refine w_zret f120_78 rfl (by decide) ?_
        first | exact ⟨h2, ⟨p1.up (by decide) (by decide), p2, p3⟩, ob_f (fun z => by unfold isC at z; omega)⟩ | exact ⟨h3, fin _ _ p1 p2 f p3, ob_f (fun z => by unfold isC at z; omega)⟩ | exact ⟨h3, fin _ _ p1 p2 f p3, ob_t ⟨by omega, by omega, by omega, by omega, by omega⟩⟩
end A

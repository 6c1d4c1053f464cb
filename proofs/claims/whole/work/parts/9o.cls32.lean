/-! the class's reading: a setup text -/
section A
variable {K : List AKd} {h : Nat → Nat → Int} {R : R4} {σ : Sg} {r d : Nat} {w : Nat → Int} {b : Nat → Int} {n : Int}
theorem s50 {k : Nat} (hk : ShRl (KS r d) k) (k0 : 3 < k) (h40 : h (k + 40) 0 = 0) : Rn (ev 50 0 [AR k] [] (KS r d, h, R)) (fun o => ∃ h1, ((∀ x y, (x < k ∨ k + 56 ≤ x ∨ x = k + 40) → h1 x y = h x y) ∧ RRl h1 k (zr w 0 504)) ∧ o = (.inl AU, (KS r d, h1, R))) := by
  obtain ⟨k1, n1, n2, n3, ni, nv, -⟩ := hk
  have n11 := n1.1
  have n21 := n2.1
  have n31 := n3.1
  have nv1 := nv.1
  obtain ⟨i1, i2⟩ := ni
  have z0 : ∀ y : Nat, y < 504 → zr w 0 504 y = 0 := fun y hy => if_pos (by omega)
  have zc : ∀ y : Nat, y < 504 → ∀ i : Nat, ¬ ((i : Int) < zr w 0 504 y) := fun y hy i => by rw [z0 y hy]; omega
  refine w_aloadn f50_0 rfl (by omega) ?_
  refine w_getR f50_1 (by assumption) rfl (by omega) ?_
  refine w_iconst (v := 0) f50_4 (by decide) ?_
  refine w_putI f50_5 (by assumption) ?_
  refine w_aloadn f50_8 rfl (by omega) ?_
  refine w_getR f50_9 (by assumption) rfl (by omega) ?_
  refine w_iconst (v := 0) f50_12 (by decide) ?_
  refine w_putI f50_13 (by assumption) ?_
  refine w_aloadn f50_16 rfl (by omega) ?_
  refine w_getR f50_17 (by assumption) rfl (by omega) ?_
  refine w_iconst (v := 0) f50_20 (by decide) ?_
  refine w_putI f50_21 (by assumption) ?_
  refine w_aloadn f50_24 rfl (by omega) ?_
  refine w_iconst (v := 0) f50_25 (by decide) ?_
  refine w_putI f50_26 (by assumption) ?_
  refine w_aloadn f50_29 rfl (by omega) ?_
  refine w_getR f50_30 (by assumption) rfl (by omega) ?_
  refine w_iconst (v := 0) f50_33 (by decide) ?_
  refine w_putI f50_34 (by assumption) ?_
  refine w_aloadn f50_37 rfl (by omega) ?_
  refine w_getR f50_38 (by assumption) rfl (by omega) ?_
  refine w_getR f50_41 (by assumption) rfl (by omega) ?_
  refine w_iconst (v := 0) f50_44 (by decide) ?_
  refine w_cS f50_45 (Or.inl rfl) (Nat.le_of_ble_eq_true rfl) rfl rfl ⟨Nat.le_of_ble_eq_true rfl, rfl, Nat.le_of_ble_eq_true rfl⟩ (en284 _ _) (s284 i2 (by decide) (by omega)) (pv284 _ _) ?_
  refine w_ret f50_48 rfl ?_
  refine ⟨_, ⟨fun x y hx => by (repeat (first | refine Eq.trans hput_s ?_ | refine Eq.trans (hput_k (by omega)) ?_ | refine Eq.trans (hput_j (by first | decide | omega)) ?_ | refine Eq.trans (fiH_in (by omega)) ?_ | refine Eq.trans (fiH_k (by omega)) ?_ | refine Eq.trans (hcp_s (by omega)) ?_ | refine Eq.trans (hcp_k (by omega)) ?_)); rfl, ⟨⟨⟨?_, fun i hi => absurd hi (zc 0 (by decide) i)⟩, ⟨?_, fun i hi => absurd hi (zc 1 (by decide) i)⟩, ⟨?_, fun i hi => absurd hi (zc 2 (by decide) i)⟩⟩, ?_, ⟨?_, fun i hi => absurd hi (zc 4 (by decide) i)⟩⟩, ⟨?_, fun i hi => absurd hi (zc 3 (by decide) i)⟩⟩, rfl⟩
  · rw [z0 _ (by decide)]; (repeat (first | refine Eq.trans hput_s ?_ | refine Eq.trans (hput_k (by omega)) ?_ | refine Eq.trans (hput_j (by first | decide | omega)) ?_ | refine Eq.trans (fiH_in (by omega)) ?_ | refine Eq.trans (fiH_k (by omega)) ?_ | refine Eq.trans (hcp_s (by omega)) ?_ | refine Eq.trans (hcp_k (by omega)) ?_)); rfl
  · rw [z0 _ (by decide)]; (repeat (first | refine Eq.trans hput_s ?_ | refine Eq.trans (hput_k (by omega)) ?_ | refine Eq.trans (hput_j (by first | decide | omega)) ?_ | refine Eq.trans (fiH_in (by omega)) ?_ | refine Eq.trans (fiH_k (by omega)) ?_ | refine Eq.trans (hcp_s (by omega)) ?_ | refine Eq.trans (hcp_k (by omega)) ?_)); rfl
  · rw [z0 _ (by decide)]; (repeat (first | refine Eq.trans hput_s ?_ | refine Eq.trans (hput_k (by omega)) ?_ | refine Eq.trans (hput_j (by first | decide | omega)) ?_ | refine Eq.trans (fiH_in (by omega)) ?_ | refine Eq.trans (fiH_k (by omega)) ?_ | refine Eq.trans (hcp_s (by omega)) ?_ | refine Eq.trans (hcp_k (by omega)) ?_)); rfl
  · refine RCf.st (by rw [z0 _ (by decide)]; decide) (by rw [z0 _ (by decide)]; decide) (by rw [z0 _ (by decide)]; decide) ?_ ?_ ?_ ?_
    · (repeat (first | refine Eq.trans hput_s ?_ | refine Eq.trans (hput_k (by omega)) ?_ | refine Eq.trans (hput_j (by first | decide | omega)) ?_ | refine Eq.trans (fiH_in (by omega)) ?_ | refine Eq.trans (fiH_k (by omega)) ?_ | refine Eq.trans (hcp_s (by omega)) ?_ | refine Eq.trans (hcp_k (by omega)) ?_)); exact h40
    · rw [z0 _ (by decide)]; (repeat (first | refine Eq.trans hput_s ?_ | refine Eq.trans (hput_k (by omega)) ?_ | refine Eq.trans (hput_j (by first | decide | omega)) ?_ | refine Eq.trans (fiH_in (by omega)) ?_ | refine Eq.trans (fiH_k (by omega)) ?_ | refine Eq.trans (hcp_s (by omega)) ?_ | refine Eq.trans (hcp_k (by omega)) ?_)); rfl
    · rw [z0 _ (by decide)]; (repeat (first | refine Eq.trans hput_s ?_ | refine Eq.trans (hput_k (by omega)) ?_ | refine Eq.trans (hput_j (by first | decide | omega)) ?_ | refine Eq.trans (fiH_in (by omega)) ?_ | refine Eq.trans (fiH_k (by omega)) ?_ | refine Eq.trans (hcp_s (by omega)) ?_ | refine Eq.trans (hcp_k (by omega)) ?_)); rfl
    · rw [z0 _ (by decide)]; (repeat (first | refine Eq.trans hput_s ?_ | refine Eq.trans (hput_k (by omega)) ?_ | refine Eq.trans (hput_j (by first | decide | omega)) ?_ | refine Eq.trans (fiH_in (by omega)) ?_ | refine Eq.trans (fiH_k (by omega)) ?_ | refine Eq.trans (hcp_s (by omega)) ?_ | refine Eq.trans (hcp_k (by omega)) ?_)); rfl
  · rw [z0 _ (by decide)]; (repeat (first | refine Eq.trans hput_s ?_ | refine Eq.trans (hput_k (by omega)) ?_ | refine Eq.trans (hput_j (by first | decide | omega)) ?_ | refine Eq.trans (fiH_in (by omega)) ?_ | refine Eq.trans (fiH_k (by omega)) ?_ | refine Eq.trans (hcp_s (by omega)) ?_ | refine Eq.trans (hcp_k (by omega)) ?_)); rfl
  · rw [z0 _ (by decide)]; (repeat (first | refine Eq.trans hput_s ?_ | refine Eq.trans (hput_k (by omega)) ?_ | refine Eq.trans (hput_j (by first | decide | omega)) ?_ | refine Eq.trans (fiH_in (by omega)) ?_ | refine Eq.trans (fiH_k (by omega)) ?_ | refine Eq.trans (hcp_s (by omega)) ?_ | refine Eq.trans (hcp_k (by omega)) ?_)); rfl
theorem s21 (hb : h 3 = b) (hn : h 2 1 = n) (h7 : n ≤ 700) (hb0 : ∀ y, 0 ≤ b y) : Rn (ev 21 0 [AR 2] [] (KS r d, h, R)) (fun o => ∃ h1, (GT h1 b n (tok b n 0) ∧ TxO h h1) ∧ o = (.inl AU, (KS r d, h1, R))) := by
  have k2 := @kd_2 r d
  refine w_aloadn f21_0 rfl (by omega) ?_
  refine w_iconst (v := 0) f21_1 (by decide) ?_
  refine w_putI f21_2 (by assumption) ?_
  refine w_aloadn f21_5 rfl (by omega) ?_
  refine w_iconst (v := -1) f21_6 (by decide) ?_
  refine w_putI f21_7 (by assumption) ?_
  refine w_aloadn f21_10 rfl (by omega) ?_
  refine w_iconst (v := 0) f21_11 (by decide) ?_
  refine w_putI f21_12 (by assumption) ?_
  refine w_aloadn f21_15 rfl (by omega) ?_
  refine w_qV f21_16 (Or.inl rfl) rfl (by omega) (okd_of (by assumption)) rfl ⟨Nat.le_of_ble_eq_true rfl, rfl, Nat.le_of_ble_eq_true rfl⟩ (en25 _) (s25 (p := 0) ((hput_w (hput_w (hput_w hb (by decide)) (by decide)) (by decide))) ((hput_j (by decide)).trans ((hput_j (by decide)).trans ((hput_j (by decide)).trans hn))) h7 hb0 hput_s (by decide)) (fun o9 ho9 => ?_)
  obtain ⟨h1, q1, q2, rfl⟩ := ho9
  refine w_bok (pv25 _ _) ?_
  refine w_ret f21_19 rfl ?_
  refine ⟨h1, ⟨⟨⟨⟨q1.bb (hput_w (hput_w (hput_w hb (by decide)) (by decide)) (by decide)), q1.nn ((hput_j (by decide)).trans ((hput_j (by decide)).trans ((hput_j (by decide)).trans hn))), h7, hb0⟩, q2, tok_r h7 (by decide)⟩, (q1 _ _ (by omega)).trans ((hput_j (by decide)).trans ((hput_j (by decide)).trans hput_s)), (q1 _ _ (by omega)).trans ((hput_j (by decide)).trans hput_s)⟩, fun x y z => (q1 x y (by omega)).trans ((if_neg (by omega)).trans ((if_neg (by omega)).trans (if_neg (by omega))))⟩, rfl⟩
theorem l49f {h0 : Nat → Nat → Int} {k : Nat} {i : Int} {e : Int × Int × (Nat → Int)} {m : PM} (k0 : 3 < k) (q : FT h b n e) (hF : FmO k h0 h) (hm : m = .inl e) : Rn (ev 49 35 [AR k, AR 2, AI i] [] (KS r d, h, R)) (RdQ r d R h0 b n k m) := by
  have k2 := @kd_2 r d
  have h6 : h 2 6 ≠ 0 := by rw [q.1.1]; exact q.1.2.1
  have z22 := s22 (h := h) (r := r) (d := d) (R := R)
  rw [b2i_t h6] at z22
  refine w_aloadn f49_35 rfl (by omega) ?_
  refine w_cV f49_36 (Or.inl rfl) rfl (by omega) (okd_of (by assumption)) rfl ⟨Nat.le_of_ble_eq_true rfl, rfl, Nat.le_of_ble_eq_true rfl⟩ (en22 _) (z22) (pv22 _ _) ?_
  refine w_if_eq (t := 43) f49_39 (by decide) (fun c1 => by omega) (fun c1 => ?_)
  refine w_ret f49_42 rfl ?_
  exact Or.inr ⟨e, h, ⟨hm, q, hF⟩, rfl⟩
theorem l49l {h0 : Nat → Nat → Int} {k : Nat} {i : Int} {e : Int × Int × (Nat → Int)} {m : PM} (k0 : 3 < k) (q : FT h b n e) (hF : FmO k h0 h) (hm : m = .inl e) (hi : 0 ≤ i ∧ i ≤ 700) : Rn (ev 49 10 [AR k, AR 2, AI i] [] (KS r d, h, R)) (RdQ r d R h0 b n k m) := by
  have k2 := @kd_2 r d
  have h6 : h 2 6 ≠ 0 := by rw [q.1.1]; exact q.1.2.1
  obtain ⟨-, T, hP⟩ := id q
  have z23 := s23 (r := r) (d := d) (R := R) hP
  rw [b2i_f (fun z => h6 z.1)] at z23
  refine w_iloadn f49_10 rfl ?_
  refine w_sipush (v := 700) f49_11 (by decide) ?_
  refine w_ic_ge (t := 35) f49_14 (by decide) (fun c1 => ?_) (fun c1 => ?_)
  · exact l49f k0 q hF hm
  · refine w_aloadn f49_17 rfl (by omega) ?_
    refine w_cV f49_18 (Or.inl rfl) rfl (by omega) (okd_of (by assumption)) rfl ⟨Nat.le_of_ble_eq_true rfl, rfl, Nat.le_of_ble_eq_true rfl⟩ (en23 _) (z23) (pv23 _ _) ?_
    refine w_if_eq (t := 35) f49_21 (by decide) (fun c2 => ?_) (fun c2 => by omega)
    exact l49f k0 q hF hm
theorem l49x {h0 : Nat → Nat → Int} {k : Nat} {i : Int} {s : PS} (hk : ShRl (KS r d) k) (k0 : 3 < k) (hW : WFm s.1) (q : GT h b n s.2.1) (hR : RRl h k s.1) (hF : FmO k h0 h) : Rn (ev 49 35 [AR k, AR 2, AI i] [] (KS r d, h, R)) (RdQ r d R h0 b n k (mEnd s)) := by
  have k2 := @kd_2 r d
  obtain ⟨k1, n1, n2, n3, ni, nv, -⟩ := hk
  have n11 := n1.1
  have n21 := n2.1
  have n31 := n3.1
  have nv1 := nv.1
  have ni1 := ni.1
  have h4 := hW.1.2.2.2.2
  have hv2 := hW.1.2.2.1
  have g1 : ∀ i, 0 ≤ i → i < s.1 4 → 0 ≤ iv s.1 i 1 ∧ iv s.1 i 1 < 3 := fun i z1 z2 => by
    have := (hW.2.2.2.2 i z1 z2).2.1
    omega
  obtain ⟨⟨⟨r1, r2, r3⟩, r4, r5⟩, r6⟩ := hR
  have p0 : h (k + 1) 2 = s.1 0 := r1.1
  have p1 : h (k + 14) 2 = s.1 1 := r2.1
  have p2 : h (k + 27) 2 = s.1 2 := r3.1
  have z22 := s22 (h := h) (r := r) (d := d) (R := R)
  rw [b2i_f (fun z => z q.2.1)] at z22
  have hR1 : RRl h k s.1 := ⟨⟨⟨r1, r2, r3⟩, r4, r5⟩, r6⟩
  refine w_aloadn f49_35 rfl (by omega) ?_
  refine w_cV f49_36 (Or.inl rfl) rfl (by omega) (okd_of (by assumption)) rfl ⟨Nat.le_of_ble_eq_true rfl, rfl, Nat.le_of_ble_eq_true rfl⟩ (en22 _) (z22) (pv22 _ _) ?_
  refine w_if_eq (t := 43) f49_39 (by decide) (fun c1 => ?_) (fun c1 => by omega)
  refine w_aloadn f49_43 rfl (by omega) ?_
  refine w_getR f49_44 (by assumption) rfl (by omega) ?_
  refine w_getI f49_47 (by decide) (by assumption) (by (try simp only [hput, hcopy, Nat.reduceEqDiff, Nat.add_left_cancel_iff, Nat.add_right_cancel_iff, Nat.left_eq_add, Nat.add_eq_left, Nat.right_eq_add, Nat.add_eq_right, Nat.reduceAdd, Nat.add_zero, Nat.succ_ne_self, Nat.one_ne_zero, Nat.zero_ne_one, eq_self, and_self, and_true, true_and, and_false, false_and, if_true, if_false, reduceIte, Int.reduceToNat, Int.toNat_natCast, p0, p1, p2]); exact rfl) ?_
  refine w_if_eq (t := 73) f49_50 (by decide) (fun c2 => ?_) (fun c2 => ?_)
  · refine w_aloadn f49_73 rfl (by omega) ?_
    refine w_bipush (v := 6) f49_74 (by decide) ?_
    refine w_cV f49_76 (Or.inl rfl) rfl (by omega) (okd_of (by assumption)) rfl ⟨Nat.le_of_ble_eq_true rfl, rfl, Nat.le_of_ble_eq_true rfl⟩ (en24 _ _) (s24) (pv24 _ _) ?_
    refine w_goto (t := 103) f49_79 (by decide) ?_
    refine w_ret f49_103 rfl ?_
    unfold mEnd
    first | (rw [if_pos (by omega)]; exact Or.inr ⟨(6, s.2.1.1, s.1), _, ⟨rfl, fle_F q (by decide), hF.tr fle_o.m⟩, rfl⟩) | (rw [if_neg (by omega), if_neg (by assumption)]; exact Or.inr ⟨(7, s.2.1.1, s.1), _, ⟨rfl, fle_F q (by decide), hF.tr fle_o.m⟩, rfl⟩) | (rw [if_neg (by omega), if_pos (by assumption)]; exact Or.inl ⟨s, _, ⟨rfl, q, hR1, hF⟩, rfl⟩)
  · refine w_aloadn f49_53 rfl (by omega) ?_
    refine w_getR f49_54 (by assumption) rfl (by omega) ?_
    refine w_getI f49_57 (by decide) (by assumption) (by (try simp only [hput, hcopy, Nat.reduceEqDiff, Nat.add_left_cancel_iff, Nat.add_right_cancel_iff, Nat.left_eq_add, Nat.add_eq_left, Nat.right_eq_add, Nat.add_eq_right, Nat.reduceAdd, Nat.add_zero, Nat.succ_ne_self, Nat.one_ne_zero, Nat.zero_ne_one, eq_self, and_self, and_true, true_and, and_false, false_and, if_true, if_false, reduceIte, Int.reduceToNat, Int.toNat_natCast, p0, p1, p2]); exact rfl) ?_
    refine w_if_eq (t := 73) f49_60 (by decide) (fun c3 => ?_) (fun c3 => ?_)
    · refine w_aloadn f49_73 rfl (by omega) ?_
      refine w_bipush (v := 6) f49_74 (by decide) ?_
      refine w_cV f49_76 (Or.inl rfl) rfl (by omega) (okd_of (by assumption)) rfl ⟨Nat.le_of_ble_eq_true rfl, rfl, Nat.le_of_ble_eq_true rfl⟩ (en24 _ _) (s24) (pv24 _ _) ?_
      refine w_goto (t := 103) f49_79 (by decide) ?_
      refine w_ret f49_103 rfl ?_
      unfold mEnd
      first | (rw [if_pos (by omega)]; exact Or.inr ⟨(6, s.2.1.1, s.1), _, ⟨rfl, fle_F q (by decide), hF.tr fle_o.m⟩, rfl⟩) | (rw [if_neg (by omega), if_neg (by assumption)]; exact Or.inr ⟨(7, s.2.1.1, s.1), _, ⟨rfl, fle_F q (by decide), hF.tr fle_o.m⟩, rfl⟩) | (rw [if_neg (by omega), if_pos (by assumption)]; exact Or.inl ⟨s, _, ⟨rfl, q, hR1, hF⟩, rfl⟩)
    · refine w_aloadn f49_63 rfl (by omega) ?_
      refine w_getR f49_64 (by assumption) rfl (by omega) ?_
      refine w_getI f49_67 (by decide) (by assumption) (by (try simp only [hput, hcopy, Nat.reduceEqDiff, Nat.add_left_cancel_iff, Nat.add_right_cancel_iff, Nat.left_eq_add, Nat.add_eq_left, Nat.right_eq_add, Nat.add_eq_right, Nat.reduceAdd, Nat.add_zero, Nat.succ_ne_self, Nat.one_ne_zero, Nat.zero_ne_one, eq_self, and_self, and_true, true_and, and_false, false_and, if_true, if_false, reduceIte, Int.reduceToNat, Int.toNat_natCast, p0, p1, p2]); exact rfl) ?_
      refine w_if_ne (t := 82) f49_70 (by decide) (fun c4 => ?_) (fun c4 => ?_)
      · refine w_aloadn f49_82 rfl (by omega) ?_
        refine w_getR f49_83 (by assumption) rfl (by omega) ?_
        refine w_aloadn f49_86 rfl (by omega) ?_
        refine w_getR f49_87 (by assumption) rfl (by omega) ?_
        refine w_cV f49_90 (Or.inl rfl) rfl (by omega) (okd_of (by assumption)) rfl ⟨Nat.le_of_ble_eq_true rfl, rfl, Nat.le_of_ble_eq_true rfl⟩ (en40 _ _) (s40 nv ni (by omega) (by omega) r5 r4 h4 g1) (pv40 _ _) ?_
        refine w_iconst (v := -1) f49_93 (by decide) ?_
        refine w_ic_eq (t := 103) f49_94 (by decide) (fun c5 => ?_) (fun c5 => ?_)
        · refine w_ret f49_103 rfl ?_
          unfold mEnd
          first | (rw [if_pos (by omega)]; exact Or.inr ⟨(6, s.2.1.1, s.1), _, ⟨rfl, fle_F q (by decide), hF.tr fle_o.m⟩, rfl⟩) | (rw [if_neg (by omega), if_neg (by assumption)]; exact Or.inr ⟨(7, s.2.1.1, s.1), _, ⟨rfl, fle_F q (by decide), hF.tr fle_o.m⟩, rfl⟩) | (rw [if_neg (by omega), if_pos (by assumption)]; exact Or.inl ⟨s, _, ⟨rfl, q, hR1, hF⟩, rfl⟩)
        · refine w_aloadn f49_97 rfl (by omega) ?_
          refine w_bipush (v := 7) f49_98 (by decide) ?_
          refine w_cV f49_100 (Or.inl rfl) rfl (by omega) (okd_of (by assumption)) rfl ⟨Nat.le_of_ble_eq_true rfl, rfl, Nat.le_of_ble_eq_true rfl⟩ (en24 _ _) (s24) (pv24 _ _) ?_
          refine w_ret f49_103 rfl ?_
          unfold mEnd
          first | (rw [if_pos (by omega)]; exact Or.inr ⟨(6, s.2.1.1, s.1), _, ⟨rfl, fle_F q (by decide), hF.tr fle_o.m⟩, rfl⟩) | (rw [if_neg (by omega), if_neg (by assumption)]; exact Or.inr ⟨(7, s.2.1.1, s.1), _, ⟨rfl, fle_F q (by decide), hF.tr fle_o.m⟩, rfl⟩) | (rw [if_neg (by omega), if_pos (by assumption)]; exact Or.inl ⟨s, _, ⟨rfl, q, hR1, hF⟩, rfl⟩)
      · refine w_aloadn f49_73 rfl (by omega) ?_
        refine w_bipush (v := 6) f49_74 (by decide) ?_
        refine w_cV f49_76 (Or.inl rfl) rfl (by omega) (okd_of (by assumption)) rfl ⟨Nat.le_of_ble_eq_true rfl, rfl, Nat.le_of_ble_eq_true rfl⟩ (en24 _ _) (s24) (pv24 _ _) ?_
        refine w_goto (t := 103) f49_79 (by decide) ?_
        refine w_ret f49_103 rfl ?_
        unfold mEnd
        first | (rw [if_pos (by omega)]; exact Or.inr ⟨(6, s.2.1.1, s.1), _, ⟨rfl, fle_F q (by decide), hF.tr fle_o.m⟩, rfl⟩) | (rw [if_neg (by omega), if_neg (by assumption)]; exact Or.inr ⟨(7, s.2.1.1, s.1), _, ⟨rfl, fle_F q (by decide), hF.tr fle_o.m⟩, rfl⟩) | (rw [if_neg (by omega), if_pos (by assumption)]; exact Or.inl ⟨s, _, ⟨rfl, q, hR1, hF⟩, rfl⟩)
theorem l49n {i : Int} {k : Nat} {Q : Out → Prop} (hi : 0 ≤ i ∧ i ≤ 700) (g : Rn (ev 49 10 [AR k, AR 2, AI (i + 1)] [] σ) Q) : Rn (ev 49 29 [AR k, AR 2, AI i] [] σ) Q := by
  refine w_iincn f49_29 rfl (by omega) (sto_3_2 rfl) ?_
  refine w_goto (t := 10) f49_32 (by decide) ?_
  exact g
theorem l49 {h0 : Nat → Nat → Int} {k : Nat} (hk : ShRl (KS r d) k) (k0 : 3 < k) (h7 : n ≤ 700) : ∀ (f : Nat) (i : Int) (s : PS) (h : Nat → Nat → Int), i + f = 700 → 0 ≤ i → i ≤ s.2.1.1 → WFm s.1 → TQ s.2.1 → GT h b n s.2.1 → RRl h k s.1 → FmO k h0 h → Rn (ev 49 10 [AR k, AR 2, AI i] [] (KS r d, h, R)) (RdQ r d R h0 b n k (pb (mTxG b n (f + 1) s) mEnd)) := by
  intro f
  have k2 := @kd_2 r d
  have k1 := hk.1
  induction f with
  | zero =>
    intro i s h h1 h2 h3 hW hQ q hR hF
    have hT := q.1.2.2
    have hz : s.2.1.2.2.2 = 0 := Classical.byContradiction (fun z => by have := hQ z; have := hT.2.2; omega)
    have e : pb (mTxG b n (0 + 1) s) mEnd = mEnd s := by simp only [mTxG]; rw [if_pos hz]; rfl
    rw [e]
    refine w_iloadn f49_10 rfl ?_
    refine w_sipush (v := 700) f49_11 (by decide) ?_
    refine w_ic_ge (t := 35) f49_14 (by decide) (fun c1 => ?_) (fun c1 => by omega)
    exact l49x hk k0 hW q hR hF
  | succ f ih =>
    intro i s h h1 h2 h3 hW hQ q hR hF
    have hT := q.1.2.2
    have z23 := s23 (r := r) (d := d) (R := R) q.1
    by_cases hz : s.2.1.2.2.2 = 0
    · have e : pb (mTxG b n (f + 1 + 1) s) mEnd = mEnd s := by simp only [mTxG]; rw [if_pos hz]; rfl
      rw [e]
      rw [b2i_f (fun z => z.2 hz)] at z23
      refine w_iloadn f49_10 rfl ?_
      refine w_sipush (v := 700) f49_11 (by decide) ?_
      refine w_ic_ge (t := 35) f49_14 (by decide) (fun c1 => by omega) (fun c1 => ?_)
      refine w_aloadn f49_17 rfl (by omega) ?_
      refine w_cV f49_18 (Or.inl rfl) rfl (by omega) (okd_of (by assumption)) rfl ⟨Nat.le_of_ble_eq_true rfl, rfl, Nat.le_of_ble_eq_true rfl⟩ (en23 _) (z23) (pv23 _ _) ?_
      refine w_if_eq (t := 35) f49_21 (by decide) (fun c2 => ?_) (fun c2 => by omega)
      exact l49x hk k0 hW q hR hF
    · have e : mTxG b n (f + 1 + 1) s = pb (mStm b n s) (fun s => mTxG b n (f + 1) s) := by rw [mTxG, if_neg hz]
      rw [e, pb_assoc]
      rw [b2i_t ⟨q.2.1, hz⟩] at z23
      refine w_iloadn f49_10 rfl ?_
      refine w_sipush (v := 700) f49_11 (by decide) ?_
      refine w_ic_ge (t := 35) f49_14 (by decide) (fun c1 => by omega) (fun c1 => ?_)
      refine w_aloadn f49_17 rfl (by omega) ?_
      refine w_cV f49_18 (Or.inl rfl) rfl (by omega) (okd_of (by assumption)) rfl ⟨Nat.le_of_ble_eq_true rfl, rfl, Nat.le_of_ble_eq_true rfl⟩ (en23 _) (z23) (pv23 _ _) ?_
      refine w_if_eq (t := 35) f49_21 (by decide) (fun c2 => by omega) (fun c2 => ?_)
      refine w_aloadn f49_24 rfl (by omega) ?_
      refine w_aloadn f49_25 rfl (by omega) ?_
      refine w_qV f49_26 (Or.inl rfl) rfl (by omega) (okd_of (by assumption)) rfl ⟨Nat.le_of_ble_eq_true rfl, rfl, Nat.le_of_ble_eq_true rfl⟩ (en51 _ _) (s51 hk k0 hW h7 hR q) (fun o9 ho9 => ?_)
      rcases ho9 with ⟨s1, h2, ⟨b1, b2, b3, b4⟩, rfl⟩ | ⟨e, h2, ⟨b1, b2, b3⟩, rfl⟩
      rotate_left
      · refine w_bok (pv51 _ _) ?_
        refine l49n (by omega) (l49l k0 b2 (hF.tr b3) (by rw [b1]; rfl) ⟨by omega, by omega⟩)
      refine w_bok (pv51 _ _) ?_
      refine w_iincn f49_29 rfl (by omega) (sto_3_2 rfl) ?_
      refine w_goto (t := 10) f49_32 (by decide) ?_
      rw [b1]
      have g := mStm_G h7 hT b1
      exact ih (i + 1) s1 h2 (by omega) (by omega) (by have := g.2; omega) (mStm_W h7 hT hW b1) g.1.2.1 b2 b3 (hF.tr b4)
theorem s49 {k : Nat} {nn : Nat → Int} (hk : ShRl (KS r d) k) (k0 : 3 < k) (h40 : h (k + 40) 0 = 0) (hb : h 3 = b) (hn : h 2 1 = n) (h7 : n ≤ 700) (hb0 : ∀ y, 0 ≤ b y) : Rn (ev 49 0 [AR k, AR 2, AU] [] (KS r d, h, R)) (RdQ r d R h b n k (mTxt b n w nn)) := by
  have k2 := @kd_2 r d
  have k1 := hk.1
  have z0 : ∀ y : Nat, y < 504 → zr w 0 504 y = 0 := fun y hy => if_pos (by omega)
  have hW0 : WFm (zr w 0 504) := by
    refine ⟨⟨by rw [z0 _ (by decide)]; decide, by rw [z0 _ (by decide)]; decide, by rw [z0 _ (by decide)]; decide, by rw [z0 _ (by decide)]; decide, by rw [z0 _ (by decide)]; decide⟩, fun i i1 i2 => by rw [z0 _ (by omega)]; decide, ⟨fun i i1 i2 => ?_, fun i i1 i2 => ?_, fun i i1 i2 => ?_⟩, fun i i1 i2 => ?_, fun i i1 i2 => ?_⟩
    · rw [z0 _ (by decide)] at i2; omega
    · rw [z0 _ (by decide)] at i2; omega
    · rw [z0 _ (by decide)] at i2; omega
    · rw [z0 _ (by decide)] at i2; omega
    · rw [z0 _ (by decide)] at i2; omega
  have hq := tok_q (b := b) (n := n) (p := 0) h7 (by decide)
  refine w_aloadn f49_0 rfl (by omega) ?_
  refine w_qV f49_1 (Or.inl rfl) rfl (by omega) (okd_of (by assumption)) rfl ⟨Nat.le_of_ble_eq_true rfl, rfl, Nat.le_of_ble_eq_true rfl⟩ (en50 _) (s50 (w := w) hk k0 h40) (fun o9 ho9 => ?_)
  obtain ⟨h1, ⟨p1, p2⟩, rfl⟩ := ho9
  refine w_bok (pv50 _ _) ?_
  refine w_aloadn f49_4 rfl (by omega) ?_
  refine w_qV f49_5 (Or.inl rfl) rfl (by omega) (okd_of (by assumption)) rfl ⟨Nat.le_of_ble_eq_true rfl, rfl, Nat.le_of_ble_eq_true rfl⟩ (en21 _) (s21 (b := b) ((funext fun y => p1 3 y (by omega)).trans hb) ((p1 _ _ (by omega)).trans hn) h7 hb0) (fun o9 ho9 => ?_)
  obtain ⟨h2, ⟨q1, q2⟩, rfl⟩ := ho9
  refine w_bok (pv21 _ _) ?_
  refine w_iconst (v := 0) f49_8 (by decide) ?_
  refine w_istoren f49_9 (Nat.le_of_ble_eq_true rfl) (sto_3_2 rfl) ?_
  exact l49 hk k0 h7 700 0 (zr w 0 504, tok b n 0, nn) h2 (by omega) (by omega) hq.2 hW0 hq.1 q1 (p2.o hW0.1 k0 q2) (fun x y z1 z2 => (q2 x y z1).trans (p1 x y z2))
end A

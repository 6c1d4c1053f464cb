/-! the class's counts, III -/
section A
variable {K : List AKd} {h : Nat → Nat → Int} {R : R4} {σ : Sg} {r d : Nat} {w : Nat → Int} {b : Nat → Int} {n : Int}
theorem s12 {k m : Nat} (hk : kdK (KS r d) k = some (20, m, [])) (hk0 : 0 < k) (hm : m < 1000) : ev 12 0 [AR k, AU, AU, AU, AU, AU] [] (KS r d, h, R) = some (.inl (AI (smG (h k) 0 m 0 0)), (KS r d, h, R)) := by
  refine Rn.eq ?_
  refine w_iconst (v := 0) f12_0 (by decide) ?_
  refine w_istoren f12_1 (Nat.le_of_ble_eq_true rfl) (sto_6_1 rfl) ?_
  refine w_aloadn f12_2 rfl (by omega) ?_
  refine w_astoren f12_3 (by omega) (Nat.le_of_ble_eq_true rfl) (sto_6_2 rfl) ?_
  refine w_aloadn f12_4 rfl (by omega) ?_
  refine w_alen f12_5 (by assumption) (by omega) ?_
  refine w_istoren f12_6 (Nat.le_of_ble_eq_true rfl) (sto_6_3 rfl) ?_
  refine w_iconst (v := 0) f12_7 (by decide) ?_
  refine w_istore f12_8 (Nat.le_of_ble_eq_true rfl) (sto_6_4 rfl) ?_
  exact Rn.to (l12 hk hk0 hm m 0 0 _ (by omega) (by omega)) rfl
theorem s11 {k : Nat} (hk : ShCv (KS r d) k) (hk0 : 0 < k) : ev 11 0 [AR k] [] (KS r d, h, R) = some (.inl (AI (b2i (smG (h (k + 1)) 0 24 0 0 = h k 3 ∧ smG (h (k + 3)) 0 5 0 0 = h k 4 ∧ smG (h (k + 2)) 0 10 0 0 = wr (h k 3 + 1)))), (KS r d, h, R)) := by
  refine Rn.eq ?_
  obtain ⟨k1, k2, k3, k4, k5⟩ := hk
  have z1 := s12 (h := h) (R := R) k2 (by omega) (by decide)
  have z2 := s12 (h := h) (R := R) k4 (by omega) (by decide)
  have z3 := s12 (h := h) (R := R) k3 (by omega) (by decide)
  generalize smG (h (k + 1)) 0 24 0 0 = x1 at z1 ⊢
  generalize smG (h (k + 3)) 0 5 0 0 = x2 at z2 ⊢
  generalize smG (h (k + 2)) 0 10 0 0 = x3 at z3 ⊢
  refine w_aloadn f11_0 rfl (by omega) ?_
  refine w_getR f11_1 (by assumption) rfl (by omega) ?_
  refine w_cS f11_4 (Or.inl rfl) (Nat.le_of_ble_eq_true rfl) rfl rfl ⟨Nat.le_of_ble_eq_true rfl, rfl, Nat.le_of_ble_eq_true rfl⟩ (en12 _) (z1) (pv12 _ _) ?_
  refine w_aloadn f11_7 rfl (by omega) ?_
  refine w_getI f11_8 (by decide) (by assumption) (by (try simp only [hput, hcopy, Nat.reduceEqDiff, Nat.add_left_cancel_iff, Nat.add_right_cancel_iff, Nat.left_eq_add, Nat.add_eq_left, Nat.right_eq_add, Nat.add_eq_right, Nat.reduceAdd, Nat.add_zero, Nat.succ_ne_self, Nat.one_ne_zero, Nat.zero_ne_one, eq_self, and_self, and_true, true_and, and_false, false_and, if_true, if_false, reduceIte, Int.reduceToNat, Int.toNat_natCast]); exact rfl) ?_
  refine w_ic_ne (t := 48) f11_11 (by decide) (fun c1 => ?_) (fun c1 => ?_)
  · refine w_iconst (v := 0) f11_48 (by decide) ?_
    refine w_zret f11_49 rfl (by decide) ?_
    first | exact ob_t ⟨by assumption, by assumption, by assumption⟩ | exact ob_f (fun z => absurd z.1 (by assumption)) | exact ob_f (fun z => absurd z.2.1 (by assumption)) | exact ob_f (fun z => absurd z.2.2 (by assumption))
  · refine w_aloadn f11_14 rfl (by omega) ?_
    refine w_getR f11_15 (by assumption) rfl (by omega) ?_
    refine w_cS f11_18 (Or.inl rfl) (Nat.le_of_ble_eq_true rfl) rfl rfl ⟨Nat.le_of_ble_eq_true rfl, rfl, Nat.le_of_ble_eq_true rfl⟩ (en12 _) (z2) (pv12 _ _) ?_
    refine w_aloadn f11_21 rfl (by omega) ?_
    refine w_getI f11_22 (by decide) (by assumption) (by (try simp only [hput, hcopy, Nat.reduceEqDiff, Nat.add_left_cancel_iff, Nat.add_right_cancel_iff, Nat.left_eq_add, Nat.add_eq_left, Nat.right_eq_add, Nat.add_eq_right, Nat.reduceAdd, Nat.add_zero, Nat.succ_ne_self, Nat.one_ne_zero, Nat.zero_ne_one, eq_self, and_self, and_true, true_and, and_false, false_and, if_true, if_false, reduceIte, Int.reduceToNat, Int.toNat_natCast]); exact rfl) ?_
    refine w_ic_ne (t := 48) f11_25 (by decide) (fun c2 => ?_) (fun c2 => ?_)
    · refine w_iconst (v := 0) f11_48 (by decide) ?_
      refine w_zret f11_49 rfl (by decide) ?_
      first | exact ob_t ⟨by assumption, by assumption, by assumption⟩ | exact ob_f (fun z => absurd z.1 (by assumption)) | exact ob_f (fun z => absurd z.2.1 (by assumption)) | exact ob_f (fun z => absurd z.2.2 (by assumption))
    · refine w_aloadn f11_28 rfl (by omega) ?_
      refine w_getR f11_29 (by assumption) rfl (by omega) ?_
      refine w_cS f11_32 (Or.inl rfl) (Nat.le_of_ble_eq_true rfl) rfl rfl ⟨Nat.le_of_ble_eq_true rfl, rfl, Nat.le_of_ble_eq_true rfl⟩ (en12 _) (z3) (pv12 _ _) ?_
      refine w_aloadn f11_35 rfl (by omega) ?_
      refine w_getI f11_36 (by decide) (by assumption) (by (try simp only [hput, hcopy, Nat.reduceEqDiff, Nat.add_left_cancel_iff, Nat.add_right_cancel_iff, Nat.left_eq_add, Nat.add_eq_left, Nat.right_eq_add, Nat.add_eq_right, Nat.reduceAdd, Nat.add_zero, Nat.succ_ne_self, Nat.one_ne_zero, Nat.zero_ne_one, eq_self, and_self, and_true, true_and, and_false, false_and, if_true, if_false, reduceIte, Int.reduceToNat, Int.toNat_natCast]); exact rfl) ?_
      refine w_iconst (v := 1) f11_39 (by decide) ?_
      refine w_iadd f11_40 ?_
      refine w_ic_ne (t := 48) f11_41 (by decide) (fun c3 => ?_) (fun c3 => ?_)
      · refine w_iconst (v := 0) f11_48 (by decide) ?_
        refine w_zret f11_49 rfl (by decide) ?_
        first | exact ob_t ⟨by assumption, by assumption, by assumption⟩ | exact ob_f (fun z => absurd z.1 (by assumption)) | exact ob_f (fun z => absurd z.2.1 (by assumption)) | exact ob_f (fun z => absurd z.2.2 (by assumption))
      · refine w_iconst (v := 1) f11_44 (by decide) ?_
        refine w_goto (t := 49) f11_45 (by decide) ?_
        refine w_zret f11_49 rfl (by decide) ?_
        first | exact ob_t ⟨by assumption, by assumption, by assumption⟩ | exact ob_f (fun z => absurd z.1 (by assumption)) | exact ob_f (fun z => absurd z.2.1 (by assumption)) | exact ob_f (fun z => absurd z.2.2 (by assumption))
/-- the counts k are those of w -/
def RCv (h : Nat → Nat → Int) (k : Nat) (w : Nat → Int) : Prop := (h k 3 = w 12 ∧ h k 4 = w 17 ∧ h k 6 = w 18) ∧ (∀ t : Nat, t < 24 → h (k + 1) t = w (69 + t)) ∧ (∀ t : Nat, t < 10 → h (k + 2) t = w (59 + t)) ∧ (h (k + 3) 0 = 0 ∧ ∀ t : Nat, 1 ≤ t → t < 5 → h (k + 3) t = w (12 + t)) ∧ ∀ t : Nat, (t : Int) < w 18 → h (k + 4) t = w (20 + 2 * t)
theorem RCv.fr {k : Nat} {h1 : Nat → Nat → Int} (q : RCv h k w) (e : ∀ x y, k ≤ x → x < k + 5 → h1 x y = h x y) : RCv h1 k w := by
  obtain ⟨⟨a1, a2, a3⟩, a4, a5, ⟨a6, a7⟩, a8⟩ := q
  exact ⟨⟨(e _ _ (by omega) (by omega)).trans a1, (e _ _ (by omega) (by omega)).trans a2, (e _ _ (by omega) (by omega)).trans a3⟩, fun t ht => (e _ _ (by omega) (by omega)).trans (a4 t ht), fun t ht => (e _ _ (by omega) (by omega)).trans (a5 t ht), ⟨(e _ _ (by omega) (by omega)).trans a6, fun t h1 h2 => (e _ _ (by omega) (by omega)).trans (a7 t h1 h2)⟩, fun t ht => (e _ _ (by omega) (by omega)).trans (a8 t ht)⟩
theorem RCv.ot {k a m : Nat} {h1 : Nat → Nat → Int} (q : RCv h k w) (e : Ot a m h h1) (hd : k + 5 ≤ a ∨ a + m ≤ k) : RCv h1 k w := q.fr (fun x y z1 z2 => e x y (by omega))
theorem RCv.ag {k : Nat} {u : Nat → Int} (q : RCv h k w) (h18 : w 18 ≤ 20) (e : ∀ y, (12 ≤ y ∧ y ≤ 92) → u y = w y) : RCv h k u := by
  obtain ⟨⟨a1, a2, a3⟩, a4, a5, ⟨a6, a7⟩, a8⟩ := q
  have e18 := e 18 (by omega)
  exact ⟨⟨a1.trans (e _ (by omega)).symm, a2.trans (e _ (by omega)).symm, a3.trans (e _ (by omega)).symm⟩, fun t ht => (a4 t ht).trans (e _ (by omega)).symm, fun t ht => (a5 t ht).trans (e _ (by omega)).symm, ⟨a6, fun t h1 h2 => (a7 t h1 h2).trans (e _ (by omega)).symm⟩, fun t ht => (a8 t (by omega)).trans (e _ (by omega)).symm⟩
theorem s13 {k j : Nat} (hk : ShCv (KS r d) k) (hj : ShCv (KS r d) j) (k0 : 0 < k) (j0 : 0 < j) (hd : j + 4 < k ∨ k + 4 < j) (h18 : w 18 ≤ 20) (hv : RCv h j w) : Rn (ev 13 0 [AR k, AR j] [] (KS r d, h, R)) (fun o => ∃ h1, (Ot k 5 h h1 ∧ RCv h1 k w) ∧ o = (.inl AU, (KS r d, h1, R))) := by
  obtain ⟨k1, k2, k3, k4, k5⟩ := hk
  obtain ⟨j1, j2, j3, j4, j5⟩ := hj
  obtain ⟨⟨a1, a2, a3⟩, a4, a5, ⟨a6, a7⟩, a8⟩ := hv
  refine w_aloadn f13_0 rfl (by omega) ?_
  refine w_getR f13_1 (by assumption) rfl (by omega) ?_
  refine w_iconst (v := 0) f13_4 (by decide) ?_
  refine w_aloadn f13_5 rfl (by omega) ?_
  refine w_getR f13_6 (by assumption) rfl (by omega) ?_
  refine w_iconst (v := 0) f13_9 (by decide) ?_
  refine w_bipush (v := 24) f13_10 (by decide) ?_
  refine w_copy f13_12 (Nat.le_of_ble_eq_true rfl) (by assumption) (by assumption) (by decide) ?_
  refine w_aloadn f13_15 rfl (by omega) ?_
  refine w_getR f13_16 (by assumption) rfl (by omega) ?_
  refine w_iconst (v := 0) f13_19 (by decide) ?_
  refine w_aloadn f13_20 rfl (by omega) ?_
  refine w_getR f13_21 (by assumption) rfl (by omega) ?_
  refine w_iconst (v := 0) f13_24 (by decide) ?_
  refine w_bipush (v := 10) f13_25 (by decide) ?_
  refine w_copy f13_27 (Nat.le_of_ble_eq_true rfl) (by assumption) (by assumption) (by decide) ?_
  refine w_aloadn f13_30 rfl (by omega) ?_
  refine w_getR f13_31 (by assumption) rfl (by omega) ?_
  refine w_iconst (v := 0) f13_34 (by decide) ?_
  refine w_aloadn f13_35 rfl (by omega) ?_
  refine w_getR f13_36 (by assumption) rfl (by omega) ?_
  refine w_iconst (v := 0) f13_39 (by decide) ?_
  refine w_iconst (v := 5) f13_40 (by decide) ?_
  refine w_copy f13_41 (Nat.le_of_ble_eq_true rfl) (by assumption) (by assumption) (by decide) ?_
  refine w_aloadn f13_44 rfl (by omega) ?_
  refine w_getR f13_45 (by assumption) rfl (by omega) ?_
  refine w_iconst (v := 0) f13_48 (by decide) ?_
  refine w_aloadn f13_49 rfl (by omega) ?_
  refine w_getR f13_50 (by assumption) rfl (by omega) ?_
  refine w_iconst (v := 0) f13_53 (by decide) ?_
  refine w_bipush (v := 20) f13_54 (by decide) ?_
  refine w_copy f13_56 (Nat.le_of_ble_eq_true rfl) (by assumption) (by assumption) (by decide) ?_
  refine w_aloadn f13_59 rfl (by omega) ?_
  refine w_aloadn f13_60 rfl (by omega) ?_
  refine w_getI f13_61 (by decide) (by assumption) (by exact (hcp_k (by omega)).trans ((hcp_k (by omega)).trans ((hcp_k (by omega)).trans ((hcp_k (by omega)).trans a1)))) ?_
  refine w_putI f13_64 (by assumption) ?_
  refine w_aloadn f13_67 rfl (by omega) ?_
  refine w_aloadn f13_68 rfl (by omega) ?_
  refine w_getI f13_69 (by decide) (by assumption) (by exact (hput_k (by omega)).trans ((hcp_k (by omega)).trans ((hcp_k (by omega)).trans ((hcp_k (by omega)).trans ((hcp_k (by omega)).trans a2))))) ?_
  refine w_putI f13_72 (by assumption) ?_
  refine w_aloadn f13_75 rfl (by omega) ?_
  refine w_aloadn f13_76 rfl (by omega) ?_
  refine w_getI f13_77 (by decide) (by assumption) (by exact (hput_k (by omega)).trans ((hput_k (by omega)).trans ((hcp_k (by omega)).trans ((hcp_k (by omega)).trans ((hcp_k (by omega)).trans ((hcp_k (by omega)).trans a3)))))) ?_
  refine w_putI f13_80 (by assumption) ?_
  refine w_ret f13_83 rfl ?_
  refine ⟨_, ⟨((((((Ot.rf.cp (by omega) (by omega)).cp (by omega) (by omega)).cp (by omega) (by omega)).cp (by omega) (by omega)).put (by omega) (by omega)).put (by omega) (by omega)).put (by omega) (by omega), ⟨(hput_j (by decide)).trans ((hput_j (by decide)).trans hput_s), (hput_j (by decide)).trans hput_s, hput_s⟩, fun t ht => ?_, fun t ht => ?_, ⟨?_, fun t h1 h2 => ?_⟩, fun t ht => ?_⟩, rfl⟩
  · exact (hput_k (by omega)).trans ((hput_k (by omega)).trans ((hput_k (by omega)).trans ((hcp_k (by omega)).trans ((hcp_k (by omega)).trans ((hcp_k (by omega)).trans ((hcp_s (by show t < 24; omega)).trans (a4 t ht)))))))
  · exact (hput_k (by omega)).trans ((hput_k (by omega)).trans ((hput_k (by omega)).trans ((hcp_k (by omega)).trans ((hcp_k (by omega)).trans ((hcp_s (by show t < 10; omega)).trans ((hcp_k (by omega)).trans (a5 t ht)))))))
  · exact (hput_k (by omega)).trans ((hput_k (by omega)).trans ((hput_k (by omega)).trans ((hcp_k (by omega)).trans ((hcp_s (by show 0 < 5; omega)).trans ((hcp_k (by omega)).trans ((hcp_k (by omega)).trans a6))))))
  · exact (hput_k (by omega)).trans ((hput_k (by omega)).trans ((hput_k (by omega)).trans ((hcp_k (by omega)).trans ((hcp_s (by show t < 5; omega)).trans ((hcp_k (by omega)).trans ((hcp_k (by omega)).trans (a7 t h1 h2)))))))
  · exact (hput_k (by omega)).trans ((hput_k (by omega)).trans ((hput_k (by omega)).trans ((hcp_s (by show t < 20; omega)).trans ((hcp_k (by omega)).trans ((hcp_k (by omega)).trans ((hcp_k (by omega)).trans (a8 t ht)))))))
/-- counts that begin, at the state x -/
def BCv (h : Nat → Nat → Int) (k : Nat) (x : Int) : Prop := (h k 3 = 0 ∧ h k 4 = 0 ∧ h k 6 = 0) ∧ (∀ t : Nat, t < 24 → h (k + 1) t = 0) ∧ (∀ t : Nat, t < 10 → h (k + 2) t = if (t : Int) = x then 1 else 0) ∧ (∀ t : Nat, t < 5 → h (k + 3) t = 0)
theorem BCv.to {k : Nat} {x : Int} (q : BCv h k x) (e12 : w 12 = 0) (e17 : w 17 = 0) (e18 : w 18 = 0) (e : ∀ t : Nat, t < 24 → w (69 + t) = 0) (e1 : ∀ t : Nat, t < 10 → w (59 + t) = if (t : Int) = x then 1 else 0) (e2 : ∀ t : Nat, 1 ≤ t → t < 5 → w (12 + t) = 0) : RCv h k w := by
  obtain ⟨⟨a1, a2, a3⟩, a4, a5, a6⟩ := q
  exact ⟨⟨a1.trans e12.symm, a2.trans e17.symm, a3.trans e18.symm⟩, fun t ht => (a4 t ht).trans (e t ht).symm, fun t ht => (a5 t ht).trans (e1 t ht).symm, ⟨a6 0 (by decide), fun t h1 h2 => (a6 t h2).trans (e2 t h1 h2).symm⟩, fun t ht => absurd ht (by omega)⟩
theorem fiH_in {k m y : Nat} {v : Int} (hy : y < m) : fiH h k m v k y = v := if_pos ⟨rfl, hy⟩
theorem fiH_k {k m x y : Nat} {v : Int} (hx : x ≠ k) : fiH h k m v x y = h x y := if_neg (fun e => hx e.1)
theorem Ot.fi {a m k j : Nat} {v : Int} {h1 : Nat → Nat → Int} (p : Ot a m h h1) (h2 : a ≤ k) (h3 : k < a + m) : Ot a m h (fiH h1 k j v) := fun x y z => (fiH_k (by omega)).trans (p x y z)
theorem s5 {k : Nat} {x : Int} (hk : ShCv (KS r d) k) (k0 : 0 < k) (hx : 0 ≤ x ∧ x < 10) : Rn (ev 5 0 [AR k, AI x] [] (KS r d, h, R)) (fun o => ∃ h1, (Ot k 5 h h1 ∧ BCv h1 k x) ∧ o = (.inl AU, (KS r d, h1, R))) := by
  obtain ⟨k1, k2, k3, k4, k5⟩ := hk
  refine w_aloadn f5_0 rfl (by omega) ?_
  refine w_getR f5_1 (by assumption) rfl (by omega) ?_
  refine w_iconst (v := 0) f5_4 (by decide) ?_
  refine w_cS f5_5 (Or.inl rfl) (Nat.le_of_ble_eq_true rfl) rfl rfl ⟨Nat.le_of_ble_eq_true rfl, rfl, Nat.le_of_ble_eq_true rfl⟩ (en284 _ _) (s284 k2 (by decide) (by omega)) (pv284 _ _) ?_
  refine w_aloadn f5_8 rfl (by omega) ?_
  refine w_getR f5_9 (by assumption) rfl (by omega) ?_
  refine w_iconst (v := 0) f5_12 (by decide) ?_
  refine w_cS f5_13 (Or.inl rfl) (Nat.le_of_ble_eq_true rfl) rfl rfl ⟨Nat.le_of_ble_eq_true rfl, rfl, Nat.le_of_ble_eq_true rfl⟩ (en284 _ _) (s284 k3 (by decide) (by omega)) (pv284 _ _) ?_
  refine w_aloadn f5_16 rfl (by omega) ?_
  refine w_getR f5_17 (by assumption) rfl (by omega) ?_
  refine w_iconst (v := 0) f5_20 (by decide) ?_
  refine w_cS f5_21 (Or.inl rfl) (Nat.le_of_ble_eq_true rfl) rfl rfl ⟨Nat.le_of_ble_eq_true rfl, rfl, Nat.le_of_ble_eq_true rfl⟩ (en284 _ _) (s284 k4 (by decide) (by omega)) (pv284 _ _) ?_
  refine w_aloadn f5_24 rfl (by omega) ?_
  refine w_iconst (v := 0) f5_25 (by decide) ?_
  refine w_putI f5_26 (by assumption) ?_
  refine w_aloadn f5_29 rfl (by omega) ?_
  refine w_iconst (v := 0) f5_30 (by decide) ?_
  refine w_putI f5_31 (by assumption) ?_
  refine w_aloadn f5_34 rfl (by omega) ?_
  refine w_iconst (v := 0) f5_35 (by decide) ?_
  refine w_putI f5_36 (by assumption) ?_
  refine w_aloadn f5_39 rfl (by omega) ?_
  refine w_getR f5_40 (by assumption) rfl (by omega) ?_
  refine w_iloadn f5_43 rfl ?_
  refine w_iconst (v := 1) f5_44 (by decide) ?_
  refine w_iast f5_45 (by assumption) (by omega) ?_
  refine w_ret f5_46 rfl ?_
  refine ⟨_, ⟨((((((Ot.rf.fi (by omega) (by omega)).fi (by omega) (by omega)).fi (by omega) (by omega)).put (by omega) (by omega)).put (by omega) (by omega)).put (by omega) (by omega)).put (by omega) (by omega), ⟨(hput_k (by omega)).trans ((hput_j (by decide)).trans ((hput_j (by decide)).trans hput_s)), (hput_k (by omega)).trans ((hput_j (by decide)).trans hput_s), (hput_k (by omega)).trans hput_s⟩, fun t ht => ?_, fun t ht => ?_, fun t ht => ?_⟩, rfl⟩
  · exact (hput_k (by omega)).trans ((hput_k (by omega)).trans ((hput_k (by omega)).trans ((hput_k (by omega)).trans ((fiH_k (by omega)).trans ((fiH_k (by omega)).trans (fiH_in (by omega)))))))
  · by_cases e : (t : Int) = x
    · rw [if_pos e]
      have e2 : t = x.toNat := by omega
      rw [e2]
      exact hput_s
    · rw [if_neg e]
      exact (hput_j (by omega)).trans ((hput_k (by omega)).trans ((hput_k (by omega)).trans ((hput_k (by omega)).trans ((fiH_k (by omega)).trans (fiH_in (by omega))))))
  · exact (hput_k (by omega)).trans ((hput_k (by omega)).trans ((hput_k (by omega)).trans ((hput_k (by omega)).trans (fiH_in (by omega)))))
theorem clr_B {k : Nat} (hc : WFc w) (q : BCv h k (w 5)) : RCv h k (clrW w) := by
  have h5 := hc.1
  refine q.to ?_ ?_ ?_ (fun t ht => ?_) (fun t ht => ?_) (fun t h1 h2 => ?_)
  · unfold clrW udI zr
    rw [if_neg (by omega), if_neg (by omega), if_neg (by omega), if_pos (by omega)]
  · unfold clrW udI zr
    rw [if_neg (by omega), if_neg (by omega), if_neg (by omega), if_pos (by omega)]
  · unfold clrW udI zr
    rw [if_neg (by omega), if_pos rfl]
  · unfold clrW udI zr
    rw [if_neg (by omega), if_neg (by omega), if_pos (by omega)]
  · unfold clrW udI zr
    by_cases e : (t : Int) = w 5
    · rw [if_pos (by omega), if_pos e]
    · rw [if_neg (by omega), if_neg (by omega), if_pos (by omega), if_neg e]
  · unfold clrW udI zr
    rw [if_neg (by omega), if_neg (by omega), if_neg (by omega), if_pos (by omega)]
end A

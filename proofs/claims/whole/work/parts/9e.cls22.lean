/-! the class's search, III: in breadth -/
section A
variable {K : List AKd} {h : Nat → Nat → Int} {R : R4} {σ : Sg} {r d : Nat} {w : Nat → Int} {b : Nat → Int} {n : Int}
def X0 : XC := (S0, fun _ => -1, fun _ => -1, fun _ => -1, fun _ => 0)
theorem l61 : ∀ (f i : Nat), i + f = 24 → ev 61 33 [AR 143, AI i] [] (KS r d, fiH h 146 i 0, R) = some (.inl AU, (KS r d, fiH (fiH h 146 24 0) 148 10000 (-1), R)) := by
  intro f
  have k0 := @kd_143 r d
  have k3 := @kd_146 r d
  have k4 := @kd_148 r d
  induction f with
  | zero =>
    intro i h1
    have e : i = 24 := by omega
    subst e
    refine Rn.eq ?_
    refine w_iloadn f61_33 rfl ?_
    refine w_bipush (v := 24) f61_34 (by decide) ?_
    refine w_ic_ge (t := 52) f61_36 (by decide) (fun c1 => ?_) (fun c1 => by omega)
    refine w_aloadn f61_52 rfl (by omega) ?_
    refine w_getR f61_53 (by assumption) rfl (by omega) ?_
    refine w_iconst (v := -1) f61_56 (by decide) ?_
    refine w_cS f61_57 (Or.inl rfl) (Nat.le_of_ble_eq_true rfl) rfl rfl ⟨Nat.le_of_ble_eq_true rfl, rfl, Nat.le_of_ble_eq_true rfl⟩ (en284 _ _) (s284 k4 (by decide) (by decide)) (pv284 _ _) ?_
    refine w_ret f61_60 rfl ?_
    rfl
  | succ f ih =>
    intro i h1
    refine Rn.eq ?_
    have z := ih (i + 1) (by omega)
    have e1 : hput (fiH h 146 i 0) 146 (i : Int).toNat 0 = fiH h 146 (i + 1) 0 := fiH_s
    refine w_iloadn f61_33 rfl ?_
    refine w_bipush (v := 24) f61_34 (by decide) ?_
    refine w_ic_ge (t := 52) f61_36 (by decide) (fun c1 => by omega) (fun c1 => ?_)
    refine w_aloadn f61_39 rfl (by omega) ?_
    refine w_getR f61_40 (by assumption) rfl (by omega) ?_
    refine w_iloadn f61_43 rfl ?_
    refine w_iconst (v := 0) f61_44 (by decide) ?_
    refine w_bast f61_45 (by assumption) (by omega) (by decide) ?_
    refine w_iincn f61_46 rfl (by omega) (sto_2_1 rfl) ?_
    refine w_goto (t := 33) f61_49 (by decide) ?_
    rw [e1]
    exact Rn.to z rfl
theorem s61 : Rn (ev 61 0 [AR 143, AU] [] (KS r d, h, R)) (fun o => ∃ h1, SRl h X0 0 (-1) h1 ∧ o = (.inl AU, (KS r d, h1, R))) := by
  have k0 := @kd_143 r d
  have k1 := @kd_144 r d
  have k2 := @kd_145 r d
  have z := fun h => l61 (h := h) (r := r) (d := d) (R := R) 24 0 rfl
  simp only [fiH_0] at z
  refine w_aloadn f61_0 rfl (by omega) ?_
  refine w_iconst (v := 0) f61_1 (by decide) ?_
  refine w_putI f61_2 (by assumption) ?_
  refine w_aloadn f61_5 rfl (by omega) ?_
  refine w_iconst (v := 0) f61_6 (by decide) ?_
  refine w_putI f61_7 (by assumption) ?_
  refine w_aloadn f61_10 rfl (by omega) ?_
  refine w_iconst (v := -1) f61_11 (by decide) ?_
  refine w_putI f61_12 (by assumption) ?_
  refine w_aloadn f61_15 rfl (by omega) ?_
  refine w_getR f61_16 (by assumption) rfl (by omega) ?_
  refine w_iconst (v := -1) f61_19 (by decide) ?_
  refine w_cS f61_20 (Or.inl rfl) (Nat.le_of_ble_eq_true rfl) rfl rfl ⟨Nat.le_of_ble_eq_true rfl, rfl, Nat.le_of_ble_eq_true rfl⟩ (en284 _ _) (s284 k1 (by decide) (by decide)) (pv284 _ _) ?_
  refine w_aloadn f61_23 rfl (by omega) ?_
  refine w_getR f61_24 (by assumption) rfl (by omega) ?_
  refine w_iconst (v := -1) f61_27 (by decide) ?_
  refine w_cS f61_28 (Or.inl rfl) (Nat.le_of_ble_eq_true rfl) rfl rfl ⟨Nat.le_of_ble_eq_true rfl, rfl, Nat.le_of_ble_eq_true rfl⟩ (en284 _ _) (s284 k2 (by decide) (by decide)) (pv284 _ _) ?_
  refine w_iconst (v := 0) f61_31 (by decide) ?_
  refine w_istoren f61_32 (Nat.le_of_ble_eq_true rfl) (sto_2_1 rfl) ?_
  refine Rn.to (z _) ⟨_, ⟨(((((((Ot.rf.put (by decide) (by decide)).put (by decide) (by decide)).put (by decide) (by decide)).fi (by decide) (by decide)).fi (by decide) (by decide)).fi (by decide) (by decide)).fi (by decide) (by decide)), ⟨?_, ?_, ?_⟩, fun y hy => ⟨?_, ?_⟩, fun t ht => ?_, fun i hi => absurd (show (i : Int) < 0 from hi) (by omega), fun c hc => ⟨?_, fun q => absurd rfl q⟩⟩, rfl⟩
  · exact (fiH_k (by decide)).trans ((fiH_k (by decide)).trans ((fiH_k (by decide)).trans ((fiH_k (by decide)).trans ((hput_j (by decide)).trans ((hput_j (by decide)).trans hput_s)))))
  · exact (fiH_k (by decide)).trans ((fiH_k (by decide)).trans ((fiH_k (by decide)).trans ((fiH_k (by decide)).trans ((hput_j (by decide)).trans hput_s))))
  · exact (fiH_k (by decide)).trans ((fiH_k (by decide)).trans ((fiH_k (by decide)).trans ((fiH_k (by decide)).trans hput_s)))
  · exact (fiH_k (by decide)).trans ((fiH_k (by decide)).trans ((fiH_k (by decide)).trans (fiH_in hy)))
  · exact (fiH_k (by decide)).trans ((fiH_k (by decide)).trans (fiH_in hy))
  · exact (fiH_k (by decide)).trans (fiH_in ht)
  · have fr := fl_r hc
    exact fiH_in (by omega)
/-- the class's search -/
def srC (w : Nat → Int) : Nat → Int → XC → Int → Int → XC × Int × Int
  | 0, _, X, D, E => (X, D, E)
  | n + 1, k, X, D, E => if k < X.1.2.2 then srC w n (k + 1) (exCG w (X.1.2.1 k.toNat) (w 1).toNat 0 X) (if anyA w (X.1.2.1 k.toNat) (w 1).toNat 0 = false then D + 1 else D) (if anyA w (X.1.2.1 k.toNat) (w 1).toNat 0 = false ∧ E = -1 then X.1.1 (X.1.2.1 k.toNat).toNat else E) else (X, D, E)
theorem srC_1 : ∀ (n : Nat) (k : Int) (X : XC) (D E : Int), (srC w n k X D E).1.1 = srG w n k X.1
  | 0, _, _, _, _ => rfl
  | n + 1, k, X, D, E => by
    simp only [srC, srG]
    by_cases z : k < X.1.2.2
    · rw [if_pos z, if_pos z, srC_1 n, exCG_1]
      rfl
    · rw [if_neg z, if_neg z]
def bfC (w : Nat → Int) (c : Int) : XC × Int × Int := srC w 10001 0 (fnC X0 c 0 (-1)) 0 (-1)
theorem bfC_1 {c : Int} : (bfC w c).1.1 = bfs w c := by
  unfold bfC bfs
  rw [srC_1, fnC_1]
  rfl
theorem l60 {h0 : Nat → Nat → Int} {l i j : Nat} (hl : ShRl (KS r d) l) (hi : ShIv (KS r d) i) (l0 : 155 ≤ l) (i0 : 0 < i) (j0 : 0 < j) (d3 : i + 5 ≤ 143) (hW : WFm w) (hv : RTr h0 l w) (hI : RIv h0 i w) (he : h0 (l + 14) 2 = w 1) : ∀ (n : Nat) (k D E : Int) (X : XC) (h : Nat → Nat → Int), 0 ≤ k → k + n = 10001 → 0 ≤ D → D ≤ k → SRl h0 X D E h → BI X.1 →
    Rn (ev 60 17 [AR 143, AR l, AR i, AR j, AI k] [] (KS r d, h, R)) (exQ r d R h0 (srC w n k X D E).1 (srC w n k X D E).2.1 (srC w n k X D E).2.2) := by
  intro n
  have k0 := @kd_143 r d
  have k3 := @kd_147 r d
  induction n with
  | zero =>
    intro k D E X h h1 h2 d1 d2 q hB
    have e1 := q.2.1.1
    have hn := hB.n
    refine w_iload f60_17 rfl ?_
    refine w_aloadn f60_19 rfl (by omega) ?_
    refine w_getI f60_20 (by decide) (by assumption) (by (try simp only [hput, hcopy, Nat.reduceEqDiff, Nat.add_left_cancel_iff, Nat.add_right_cancel_iff, Nat.left_eq_add, Nat.add_eq_left, Nat.right_eq_add, Nat.add_eq_right, Nat.reduceAdd, Nat.add_zero, Nat.succ_ne_self, Nat.one_ne_zero, Nat.zero_ne_one, eq_self, and_self, and_true, true_and, and_false, false_and, if_true, if_false, reduceIte, Int.reduceToNat, Int.toNat_natCast, e1]); exact rfl) ?_
    refine w_ic_ge (t := 53) f60_23 (by decide) (fun c1 => ?_) (fun c1 => by omega)
    refine w_ret f60_53 rfl ?_
    exact ⟨h, q, rfl⟩
  | succ n ih =>
    intro k D E X h h1 h2 d1 d2 q hB
    have e1 := q.2.1.1
    have hn := hB.n
    by_cases z : k < X.1.2.2
    · have e2 := q.2.2.2.2.1 k.toNat (by omega)
      obtain ⟨u1, u2, u3⟩ := hB.2.2 k.toNat (by omega)
      have e9 : srC w (n + 1) k X D E = srC w n (k + 1) (exCG w (X.1.2.1 k.toNat) (w 1).toNat 0 X) (if anyA w (X.1.2.1 k.toNat) (w 1).toNat 0 = false then D + 1 else D) (if anyA w (X.1.2.1 k.toNat) (w 1).toNat 0 = false ∧ E = -1 then X.1.1 (X.1.2.1 k.toNat).toNat else E) := by simp only [srC]; rw [if_pos z]
      rw [e9]
      have hB2 : BI (exCG w (X.1.2.1 k.toNat) (w 1).toNat 0 X).1 := by rw [exCG_1]; exact (exG_ok hW.ft ⟨u1, u2⟩ _ _ _ hB u3).1
      refine w_iload f60_17 rfl ?_
      refine w_aloadn f60_19 rfl (by omega) ?_
      refine w_getI f60_20 (by decide) (by assumption) (by (try simp only [hput, hcopy, Nat.reduceEqDiff, Nat.add_left_cancel_iff, Nat.add_right_cancel_iff, Nat.left_eq_add, Nat.add_eq_left, Nat.right_eq_add, Nat.add_eq_right, Nat.reduceAdd, Nat.add_zero, Nat.succ_ne_self, Nat.one_ne_zero, Nat.zero_ne_one, eq_self, and_self, and_true, true_and, and_false, false_and, if_true, if_false, reduceIte, Int.reduceToNat, Int.toNat_natCast, e1, e2]); exact rfl) ?_
      refine w_ic_ge (t := 53) f60_23 (by decide) (fun c1 => by omega) (fun c1 => ?_)
      refine w_iload f60_26 rfl ?_
      refine w_sipush (v := 10000) f60_28 (by decide) ?_
      refine w_ic_ge (t := 53) f60_31 (by decide) (fun c2 => by omega) (fun c2 => ?_)
      refine w_aloadn f60_34 rfl (by omega) ?_
      refine w_aloadn f60_35 rfl (by omega) ?_
      refine w_aloadn f60_36 rfl (by omega) ?_
      refine w_aloadn f60_37 rfl (by omega) ?_
      refine w_getR f60_38 (by assumption) rfl (by omega) ?_
      refine w_iload f60_41 rfl ?_
      refine w_iald f60_43 (by assumption) (by omega) (by (try simp only [hput, hcopy, Nat.reduceEqDiff, Nat.add_left_cancel_iff, Nat.add_right_cancel_iff, Nat.left_eq_add, Nat.add_eq_left, Nat.right_eq_add, Nat.add_eq_right, Nat.reduceAdd, Nat.add_zero, Nat.succ_ne_self, Nat.one_ne_zero, Nat.zero_ne_one, eq_self, and_self, and_true, true_and, and_false, false_and, if_true, if_false, reduceIte, Int.reduceToNat, Int.toNat_natCast, e1, e2]); exact rfl) ?_
      refine w_qV f60_44 (Or.inl rfl) rfl (by omega) (okd_of (by assumption)) rfl ⟨Nat.le_of_ble_eq_true rfl, rfl, Nat.le_of_ble_eq_true rfl⟩ (en63 _ _ _ _) (s63 hl hi l0 i0 d3 hW hv hI he ⟨u1, u2⟩ (by omega) q hB u3) (fun o9 ho9 => ?_)
      obtain ⟨h2, q2, rfl⟩ := ho9
      refine w_bok (pv63 _ _) ?_
      refine w_iincn f60_47 rfl (by omega) (sto_5_4 rfl) ?_
      refine w_goto (t := 17) f60_50 (by decide) ?_
      refine ih _ _ _ _ _ (by omega) (by omega) ?_ ?_ q2 hB2
      · split <;> omega
      · split <;> omega
    · have e9 : srC w (n + 1) k X D E = (X, D, E) := by simp only [srC]; rw [if_neg z]
      rw [e9]
      refine w_iload f60_17 rfl ?_
      refine w_aloadn f60_19 rfl (by omega) ?_
      refine w_getI f60_20 (by decide) (by assumption) (by (try simp only [hput, hcopy, Nat.reduceEqDiff, Nat.add_left_cancel_iff, Nat.add_right_cancel_iff, Nat.left_eq_add, Nat.add_eq_left, Nat.right_eq_add, Nat.add_eq_right, Nat.reduceAdd, Nat.add_zero, Nat.succ_ne_self, Nat.one_ne_zero, Nat.zero_ne_one, eq_self, and_self, and_true, true_and, and_false, false_and, if_true, if_false, reduceIte, Int.reduceToNat, Int.toNat_natCast, e1]); exact rfl) ?_
      refine w_ic_ge (t := 53) f60_23 (by decide) (fun c1 => ?_) (fun c1 => by omega)
      refine w_ret f60_53 rfl ?_
      exact ⟨h, q, rfl⟩
theorem s60 {l i j : Nat} {c : Int} (hl : ShRl (KS r d) l) (hi : ShIv (KS r d) i) (hj : ShCf (KS r d) j) (l0 : 155 ≤ l) (i0 : 0 < i) (j0 : 0 < j) (d3 : i + 5 ≤ 143) (d4 : j + 2 ≤ 143) (hW : WFm w) (hv : RTr h l w) (hI : RIv h i w) (he : h (l + 14) 2 = w 1) (hc : 0 ≤ c ∧ c ≤ 9999) (qc : RCf h j c) :
    Rn (ev 60 0 [AR 143, AR l, AR i, AR j, AU] [] (KS r d, h, R)) (exQ r d R h (bfC w c).1 (bfC w c).2.1 (bfC w c).2.2) := by
  have k0 := @kd_143 r d
  have j1 := hj.1
  have hB2 : BI (fnC X0 c 0 (-1)).1 := by rw [fnC_1]; exact BI_0.go hc ⟨Int.le_refl _, Int.le_refl _⟩
  refine w_aloadn f60_0 rfl (by omega) ?_
  refine w_qV f60_1 (Or.inl rfl) rfl (by omega) (okd_of (by assumption)) rfl ⟨Nat.le_of_ble_eq_true rfl, rfl, Nat.le_of_ble_eq_true rfl⟩ (en61 _) (s61) (fun o9 ho9 => ?_)
  obtain ⟨h1, q1, rfl⟩ := ho9
  refine w_bok (pv61 _ _) ?_
  refine w_aloadn f60_4 rfl (by omega) ?_
  refine w_aloadn f60_5 rfl (by omega) ?_
  refine w_cV f60_6 (Or.inl rfl) rfl (by omega) (okd_of (by assumption)) rfl ⟨Nat.le_of_ble_eq_true rfl, rfl, Nat.le_of_ble_eq_true rfl⟩ (en2 _) (s2 hj j0 (qc.ot q1.1 (by omega)) hc) (pv2 _ _) ?_
  refine w_iconst (v := 0) f60_9 (by decide) ?_
  refine w_iconst (v := -1) f60_10 (by decide) ?_
  refine w_qV f60_11 (Or.inl rfl) rfl (by omega) (okd_of (by assumption)) rfl ⟨Nat.le_of_ble_eq_true rfl, rfl, Nat.le_of_ble_eq_true rfl⟩ (en62 _ _ _ _) (s62 q1 BI_0 hc) (fun o9 ho9 => ?_)
  obtain ⟨h2, ⟨q2, -⟩, rfl⟩ := ho9
  refine w_bok (pv62 _ _) ?_
  refine w_iconst (v := 0) f60_14 (by decide) ?_
  refine w_istore f60_15 (Nat.le_of_ble_eq_true rfl) (sto_5_4 rfl) ?_
  exact l60 hl hi l0 i0 j0 d3 hW hv hI he 10001 0 0 (-1) _ _ (by omega) (by omega) (by omega) (by omega) q2 hB2
end A

/-! the class's standings and their history -/
section A
variable {K : List AKd} {h : Nat → Nat → Int} {R : R4} {σ : Sg} {r d : Nat} {w : Nat → Int} {b : Nat → Int} {n : Int}
/-- the standing k is that of w -/
def RSt (h : Nat → Nat → Int) (k : Nat) (w : Nat → Int) : Prop := RCf h (k + 1) (hereW w) ∧ RIv h (k + 3) w ∧ RCv h (k + 8) w
theorem RSt.fr {k : Nat} {h1 : Nat → Nat → Int} (q : RSt h k w) (e : ∀ x y, k < x → x < k + 13 → h1 x y = h x y) : RSt h1 k w :=
  ⟨q.1.fr (fun x y z1 z2 => e x y (by omega) (by omega)), q.2.1.fr (fun x y z1 z2 => e x y (by omega) (by omega)), q.2.2.fr (fun x y z1 z2 => e x y (by omega) (by omega))⟩
theorem RSt.ot {k a m : Nat} {h1 : Nat → Nat → Int} (q : RSt h k w) (e : Ot a m h h1) (hd : k + 13 ≤ a ∨ a + m ≤ k) : RSt h1 k w := q.fr (fun x y z1 z2 => e x y (by omega))
theorem s67 {k j : Nat} (hk : ShSt (KS r d) k) (hj : ShSt (KS r d) j) (k0 : 0 < k) (j0 : 0 < j) (hd : j + 13 ≤ k ∨ k + 13 ≤ j) (h4 : 0 ≤ w 4 ∧ w 4 ≤ 12) (h18 : w 18 ≤ 20) (hv : RSt h j w) : Rn (ev 67 0 [AR k, AR j] [] (KS r d, h, R)) (fun o => ∃ h1, (Ot k 13 h h1 ∧ RSt h1 k w) ∧ o = (.inl AU, (KS r d, h1, R))) := by
  obtain ⟨k1, k2, k3, k4⟩ := hk
  obtain ⟨j1, j2, j3, j4⟩ := hj
  have a1 := k2.1
  have a2 := k3.1
  have a3 := k4.1
  refine w_aloadn f67_0 rfl (by omega) ?_
  refine w_getR f67_1 (by assumption) rfl (by omega) ?_
  refine w_aloadn f67_4 rfl (by omega) ?_
  refine w_getR f67_5 (by assumption) rfl (by omega) ?_
  refine w_qV f67_8 (Or.inl rfl) rfl (by omega) (okd_of (by assumption)) rfl ⟨Nat.le_of_ble_eq_true rfl, rfl, Nat.le_of_ble_eq_true rfl⟩ (en1 _ _) (s1 k2 j2 (by omega) (by omega) (by omega) hv.1) (fun o9 ho9 => ?_)
  obtain ⟨h1, ⟨p1, p2⟩, rfl⟩ := ho9
  have hv1 := hv.fr (h1 := h1) (fun x y z1 z2 => p1 x y (by omega))
  refine w_bok (pv1 _ _) ?_
  refine w_aloadn f67_11 rfl (by omega) ?_
  refine w_getR f67_12 (by assumption) rfl (by omega) ?_
  refine w_aloadn f67_15 rfl (by omega) ?_
  refine w_getR f67_16 (by assumption) rfl (by omega) ?_
  refine w_qV f67_19 (Or.inl rfl) rfl (by omega) (okd_of (by assumption)) rfl ⟨Nat.le_of_ble_eq_true rfl, rfl, Nat.le_of_ble_eq_true rfl⟩ (en41 _ _) (s41 k3 j3 (by omega) (by omega) (by omega) h4 hv1.2.1) (fun o9 ho9 => ?_)
  obtain ⟨h2, ⟨q1, q2⟩, rfl⟩ := ho9
  have hv2 := hv1.fr (h1 := h2) (fun x y z1 z2 => q1 x y (by omega))
  refine w_bok (pv41 _ _) ?_
  refine w_aloadn f67_22 rfl (by omega) ?_
  refine w_getR f67_23 (by assumption) rfl (by omega) ?_
  refine w_aloadn f67_26 rfl (by omega) ?_
  refine w_getR f67_27 (by assumption) rfl (by omega) ?_
  refine w_qV f67_30 (Or.inl rfl) rfl (by omega) (okd_of (by assumption)) rfl ⟨Nat.le_of_ble_eq_true rfl, rfl, Nat.le_of_ble_eq_true rfl⟩ (en13 _ _) (s13 k4 j4 (by omega) (by omega) (by omega) h18 hv2.2.2) (fun o9 ho9 => ?_)
  obtain ⟨h3, ⟨u1, u2⟩, rfl⟩ := ho9
  refine w_bok (pv13 _ _) ?_
  refine w_ret f67_33 rfl ?_
  exact ⟨h3, ⟨((p1.up (by omega) (by omega)).tr (q1.up (by omega) (by omega))).tr (u1.up (by omega) (by omega)), (p2.ot q1 (by omega)).ot u1 (by omega), q2.ot u1 (by omega), u2⟩, rfl⟩
theorem s66 {k l : Nat} {c : Int} (hk : ShSt (KS r d) k) (hl : ShRl (KS r d) l) (k0 : 0 < k) (l0 : 0 < l) (hd : l + 56 ≤ k ∨ k + 13 ≤ l) (h4 : 0 ≤ w 4 ∧ w 4 ≤ 12) (hc0 : 0 ≤ c ∧ c ≤ 9999) (hc : RCf h (l + 40) c) (hv : RIv h (l + 42) w) : Rn (ev 66 0 [AR k, AR l] [] (KS r d, h, R)) (fun o => ∃ h1, (Ot k 13 h h1 ∧ RCf h1 (k + 1) c ∧ RIv h1 (k + 3) w ∧ BCv h1 (k + 8) (c / 1000)) ∧ o = (.inl AU, (KS r d, h1, R))) := by
  obtain ⟨k1, k2, k3, k4⟩ := hk
  obtain ⟨l1, -, -, -, l5, l6, -⟩ := hl
  have a1 := k2.1
  have a2 := k3.1
  have a3 := k4.1
  refine w_aloadn f66_0 rfl (by omega) ?_
  refine w_getR f66_1 (by assumption) rfl (by omega) ?_
  refine w_aloadn f66_4 rfl (by omega) ?_
  refine w_getR f66_5 (by assumption) rfl (by omega) ?_
  refine w_qV f66_8 (Or.inl rfl) rfl (by omega) (okd_of (by assumption)) rfl ⟨Nat.le_of_ble_eq_true rfl, rfl, Nat.le_of_ble_eq_true rfl⟩ (en1 _ _) (s1 k2 l5 (by omega) (by omega) (by omega) hc) (fun o9 ho9 => ?_)
  obtain ⟨h1, ⟨p1, p2⟩, rfl⟩ := ho9
  refine w_bok (pv1 _ _) ?_
  refine w_aloadn f66_11 rfl (by omega) ?_
  refine w_getR f66_12 (by assumption) rfl (by omega) ?_
  refine w_aloadn f66_15 rfl (by omega) ?_
  refine w_getR f66_16 (by assumption) rfl (by omega) ?_
  refine w_qV f66_19 (Or.inl rfl) rfl (by omega) (okd_of (by assumption)) rfl ⟨Nat.le_of_ble_eq_true rfl, rfl, Nat.le_of_ble_eq_true rfl⟩ (en41 _ _) (s41 k3 l6 (by omega) (by omega) (by omega) h4 (hv.ot p1 (by omega))) (fun o9 ho9 => ?_)
  obtain ⟨h2, ⟨q1, q2⟩, rfl⟩ := ho9
  refine w_bok (pv41 _ _) ?_
  refine w_aloadn f66_22 rfl (by omega) ?_
  refine w_getR f66_23 (by assumption) rfl (by omega) ?_
  refine w_aloadn f66_26 rfl (by omega) ?_
  refine w_getR f66_27 (by assumption) rfl (by omega) ?_
  refine w_getI f66_30 (by decide) (by assumption) (by exact (p2.ot q1 (by omega)).1) ?_
  refine w_qV f66_33 (Or.inl rfl) rfl (by omega) (okd_of (by assumption)) rfl ⟨Nat.le_of_ble_eq_true rfl, rfl, Nat.le_of_ble_eq_true rfl⟩ (en5 _ _) (s5 k4 (by omega) (by omega)) (fun o9 ho9 => ?_)
  obtain ⟨h3, ⟨u1, u2⟩, rfl⟩ := ho9
  refine w_bok (pv5 _ _) ?_
  refine w_ret f66_36 rfl ?_
  exact ⟨h3, ⟨((p1.up (by omega) (by omega)).tr (q1.up (by omega) (by omega))).tr (u1.up (by omega) (by omega)), (p2.ot q1 (by omega)).ot u1 (by omega), q2.ot u1 (by omega), u2⟩, rfl⟩
/-- the ring's rows -/
theorem row35 {p : Int} (hp : 0 ≤ p ∧ p < 8) : ([36, 49, 62, 75, 88, 101, 114, 127] : List Nat).getD p.toNat 0 = 36 + 13 * p.toNat := by
  have : p = 0 ∨ p = 1 ∨ p = 2 ∨ p = 3 ∨ p = 4 ∨ p = 5 ∨ p = 6 ∨ p = 7 := by omega
  rcases this with rfl | rfl | rfl | rfl | rfl | rfl | rfl | rfl <;> rfl
def KpF (p : Int) (h h1 : Nat → Nat → Int) : Prop := ∀ x y, x ≠ 34 → (x < 36 + 13 * p.toNat ∨ 49 + 13 * p.toNat ≤ x) → h1 x y = h x y
theorem s15 {k : Nat} {p c : Int} (hk : ShSt (KS r d) k) (k0 : 0 < k) (hd : k + 13 ≤ 34) (h4 : 0 ≤ w 4 ∧ w 4 ≤ 12) (h18 : w 18 ≤ 20) (hp : h 34 1 = p) (hc : h 34 2 = c) (hp0 : 0 ≤ p ∧ p < 8) (hc0 : 0 ≤ c ∧ c ≤ 8) (hv : RSt h k w) : Rn (ev 15 0 [AR 34, AR k] [] (KS r d, h, R)) (fun o => ∃ h1, (KpF ((p + 1) % 8) h h1 ∧ h1 34 1 = (p + 1) % 8 ∧ h1 34 2 = (if c < 8 then c + 1 else c) ∧ RSt h1 (36 + 13 * ((p + 1) % 8).toNat) w) ∧ o = (.inl AU, (KS r d, h1, R))) := by
  have k1 := @kd_34 r d
  have k2 := @kd_35 r d
  have hq : 0 ≤ (p + 1) % 8 ∧ (p + 1) % 8 < 8 := by omega
  have z0 : ∀ p1 : Int, 0 ≤ p1 ∧ p1 < 8 → ShSt (KS r d) (36 + 13 * p1.toNat) := fun p1 z => shSt_h p1.toNat (by omega)
  have hv0 : ∀ v : Int, RSt (hput h 34 1 v) k w := fun v => hv.fr (fun x y z1 z2 => hput_k (by omega))
  have fin : ∀ h2 : Nat → Nat → Int, Ot (36 + 13 * ((p + 1) % 8).toNat) 13 (hput h 34 1 ((p + 1) % 8)) h2 → h2 34 2 = c ∧ h2 34 1 = (p + 1) % 8 ∧ KpF ((p + 1) % 8) h h2 := fun h2 q => ⟨(q _ _ (by omega)).trans ((hput_j (by decide)).trans hc), (q _ _ (by omega)).trans hput_s, fun x y x1 x2 => (q _ _ (by omega)).trans (hput_k (by omega))⟩
  have e1 := z0 _ hq
  have e2 := e1.1
  refine w_aloadn f15_0 rfl (by omega) ?_
  refine w_aloadn f15_1 rfl (by omega) ?_
  refine w_getI f15_2 (by decide) (by assumption) (by exact hp) ?_
  refine w_iconst (v := 1) f15_5 (by decide) ?_
  refine w_iaddn f15_6 (by omega) ?_
  refine w_bipush (v := 8) f15_7 (by decide) ?_
  refine w_irem f15_9 (by omega) ?_
  refine w_putI f15_10 (by assumption) ?_
  refine w_aloadn f15_13 rfl (by omega) ?_
  refine w_getR f15_14 (by assumption) rfl (by omega) ?_
  refine w_aloadn f15_17 rfl (by omega) ?_
  refine w_getI f15_18 (by decide) (by assumption) (by exact hput_s) ?_
  refine w_aald f15_21 (by assumption) (by decide) (by omega) (row35 hq) (by omega) ?_
  refine w_aloadn f15_22 rfl (by omega) ?_
  refine w_qV f15_23 (Or.inl rfl) rfl (by omega) (okd_of (by assumption)) rfl ⟨Nat.le_of_ble_eq_true rfl, rfl, Nat.le_of_ble_eq_true rfl⟩ (en67 _ _) (s67 e1 hk (by omega) k0 (by omega) h4 h18 (hv0 _)) (fun o9 ho9 => ?_)
  obtain ⟨h2, ⟨q1, q2⟩, rfl⟩ := ho9
  refine w_bok (pv67 _ _) ?_
  refine w_aloadn f15_26 rfl (by omega) ?_
  refine w_getI f15_27 (by decide) (by assumption) (by exact (fin _ q1).1) ?_
  refine w_bipush (v := 8) f15_30 (by decide) ?_
  refine w_ic_ge (t := 45) f15_32 (by decide) (fun c1 => ?_) (fun c1 => ?_)
  · refine w_ret f15_45 rfl ?_
    first | (refine ⟨_, ⟨fun x y x1 x2 => (hput_k x1).trans ((fin _ q1).2.2 x y x1 x2), (hput_j (by decide)).trans (fin _ q1).2.1, hput_s.trans (if_pos (by assumption)).symm, q2.fr (fun x y z1 z2 => hput_k (by omega))⟩, rfl⟩; done) | exact ⟨_, ⟨(fin _ q1).2.2, (fin _ q1).2.1, (fin _ q1).1.trans (if_neg (by omega)).symm, q2⟩, rfl⟩
  · refine w_aloadn f15_35 rfl (by omega) ?_
    refine w_dup f15_36 rfl ?_
    refine w_getI f15_37 (by decide) (by assumption) (by exact (fin _ q1).1) ?_
    refine w_iconst (v := 1) f15_40 (by decide) ?_
    refine w_iaddn f15_41 (by omega) ?_
    refine w_putI f15_42 (by assumption) ?_
    refine w_ret f15_45 rfl ?_
    first | (refine ⟨_, ⟨fun x y x1 x2 => (hput_k x1).trans ((fin _ q1).2.2 x y x1 x2), (hput_j (by decide)).trans (fin _ q1).2.1, hput_s.trans (if_pos (by assumption)).symm, q2.fr (fun x y z1 z2 => hput_k (by omega))⟩, rfl⟩; done) | exact ⟨_, ⟨(fin _ q1).2.2, (fin _ q1).2.1, (fin _ q1).1.trans (if_neg (by omega)).symm, q2⟩, rfl⟩
theorem s16 {k : Nat} {p c : Int} (hk : ShSt (KS r d) k) (k0 : 0 < k) (hd : k + 13 ≤ 34) (h4 : 0 ≤ w 4 ∧ w 4 ≤ 12) (h18 : w 18 ≤ 20) (hp : h 34 1 = p) (hc : h 34 2 = c) (hp0 : 0 ≤ p ∧ p < 8) (hc0 : 1 ≤ c ∧ c ≤ 8) (hv : RSt h (36 + 13 * p.toNat) w) : Rn (ev 16 0 [AR 34, AR k] [] (KS r d, h, R)) (fun o => ∃ h1, ((∀ x y, x ≠ 34 → (x < k ∨ k + 13 ≤ x) → h1 x y = h x y) ∧ h1 34 1 = (p + 7) % 8 ∧ h1 34 2 = c - 1 ∧ RSt h1 k w) ∧ o = (.inl AU, (KS r d, h1, R))) := by
  have k1 := @kd_34 r d
  have k2 := @kd_35 r d
  have e1 : ShSt (KS r d) (36 + 13 * p.toNat) := shSt_h p.toNat (by omega)
  have e2 := hk.1
  have e7 : p + 8 - 1 = p + 7 := by omega
  refine w_aloadn f16_0 rfl (by omega) ?_
  refine w_getI f16_1 (by decide) (by assumption) (by exact hc) ?_
  refine w_if_ne (t := 8) f16_4 (by decide) (fun c1 => ?_) (fun c1 => by omega)
  refine w_aloadn f16_8 rfl (by omega) ?_
  refine w_aloadn f16_9 rfl (by omega) ?_
  refine w_getR f16_10 (by assumption) rfl (by omega) ?_
  refine w_aloadn f16_13 rfl (by omega) ?_
  refine w_getI f16_14 (by decide) (by assumption) (by exact hp) ?_
  refine w_aald f16_17 (by assumption) (by decide) (by omega) (row35 hp0) (by omega) ?_
  refine w_qV f16_18 (Or.inl rfl) rfl (by omega) (okd_of (by assumption)) rfl ⟨Nat.le_of_ble_eq_true rfl, rfl, Nat.le_of_ble_eq_true rfl⟩ (en67 _ _) (s67 hk e1 k0 (by omega) (by omega) h4 h18 hv) (fun o9 ho9 => ?_)
  obtain ⟨h2, ⟨q1, q2⟩, rfl⟩ := ho9
  refine w_bok (pv67 _ _) ?_
  refine w_aloadn f16_21 rfl (by omega) ?_
  refine w_aloadn f16_22 rfl (by omega) ?_
  refine w_getI f16_23 (by decide) (by assumption) (by exact (q1 _ _ (by omega)).trans hp) ?_
  refine w_bipush (v := 8) f16_26 (by decide) ?_
  refine w_iaddn f16_28 (by omega) ?_
  refine w_iconst (v := 1) f16_29 (by decide) ?_
  refine w_isubn f16_30 (by omega) ?_
  refine w_bipush (v := 8) f16_31 (by decide) ?_
  refine w_irem f16_33 (by omega) ?_
  refine w_putI f16_34 (by assumption) ?_
  refine w_aloadn f16_37 rfl (by omega) ?_
  refine w_dup f16_38 rfl ?_
  refine w_getI f16_39 (by decide) (by assumption) (by exact (hput_j (by decide)).trans ((q1 _ _ (by omega)).trans hc)) ?_
  refine w_iconst (v := 1) f16_42 (by decide) ?_
  refine w_isubn f16_43 (by omega) ?_
  refine w_putI f16_44 (by assumption) ?_
  refine w_ret f16_47 rfl ?_
  exact ⟨_, ⟨fun x y x1 x2 => (hput_k x1).trans ((hput_k x1).trans (q1 x y x2)), (hput_j (by decide)).trans (hput_s.trans (by rw [e7])), hput_s, q2.fr (fun x y z1 z2 => (hput_k (by omega)).trans (hput_k (by omega)))⟩, rfl⟩
end A

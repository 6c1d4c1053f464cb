/-! the class's names, II: a new one -/
section A
variable {K : List AKd} {h : Nat → Nat → Int} {R : R4} {σ : Sg} {r d : Nat} {w : Nat → Int} {b : Nat → Int} {n : Int}
theorem naG_p {c : Int} {T : Tk} (hc : 0 ≤ c) {j : Int} : ∀ (f : Nat) (i : Int) (w : Nat → Int), 0 ≤ j → j < i → naG c b T f i w (c + 1 + j).toNat = w (c + 1 + j).toNat
  | 0, _, _, _, _ => rfl
  | f + 1, i, w, h1, h2 => by
    show naG c b T f (i + 1) _ (c + 1 + j).toNat = _
    rw [naG_p hc f (i + 1) _ h1 (by omega)]
    exact if_neg (by omega)
theorem naG_l {c : Int} {T : Tk} (hc : 0 ≤ c) {j : Int} (hj : j < T.2.1 - T.1) : ∀ (f : Nat) (i : Int) (w : Nat → Int), 0 ≤ i → i ≤ j → j < i + f → naG c b T f i w (c + 1 + j).toNat = b (T.1 + j).toNat
  | 0, i, _, _, h2, h3 => by omega
  | f + 1, i, w, h1, h2, h3 => by
    show naG c b T f (i + 1) _ (c + 1 + j).toNat = _
    by_cases e : i = j
    · subst e
      rw [naG_p hc f (i + 1) _ h1 (by omega)]
      unfold udI
      rw [if_pos rfl, if_pos hj]
    · exact naG_l hc hj f (i + 1) _ (by omega) (by omega) (by omega)
theorem naW_l {c : Int} {T : Tk} (hc : 0 ≤ c) {j : Int} (h0 : 0 ≤ j) (hj : j < T.2.1 - T.1) (h6 : j < 6) : naW w c b T (c + 1 + j).toNat = b (T.1 + j).toNat := by
  unfold naW
  exact naG_l hc hj 6 0 _ (by omega) (by omega) (by omega)
/-- the first i letters of a row are those from s on -/
def ltH (h : Nat → Nat → Int) (b : Nat → Int) (a : Nat) (s : Int) (i : Nat) : Nat → Nat → Int := fun x y => if x = a ∧ y < i then b (s + y).toNat else h x y
theorem ltH_0 {a : Nat} {s : Int} : ltH h b a s 0 = h := funext fun x => funext fun y => if_neg (by omega)
theorem ltH_s {a i : Nat} {s : Int} : hput (ltH h b a s i) a i (b (s + i).toNat) = ltH h b a s (i + 1) := by
  refine funext fun x => funext fun y => ?_
  unfold hput ltH
  by_cases e : x = a ∧ y = i
  · rw [if_pos e, if_pos (by omega), e.2]
  · rw [if_neg e]
    by_cases e2 : x = a ∧ y < i
    · rw [if_pos e2, if_pos (by omega)]
    · rw [if_neg e2, if_neg (by omega)]
theorem ltH_k {a i x y : Nat} {s : Int} (hx : x ≠ a) : ltH h b a s i x y = h x y := if_neg (fun e => hx e.1)
theorem l45 {k : Nat} {e : Int} {T : Tk} {Q : Out → Prop} (hk : ShNm (KS r d) k) (k0 : 3 < k) (he : h k 2 = e) (hc : 0 ≤ e ∧ e < 10) (hP : PT h b n T) (h6 : T.2.1 - T.1 ≤ 6) : ∀ (f i : Nat), (i : Int) + f = T.2.1 - T.1 → Rn (ev 45 61 [AR k, AR 2, AI (T.2.1 - T.1), AI (T.2.1 - T.1)] [] (KS r d, ltH h b (k + 2 + e.toNat) T.1 (T.2.1 - T.1).toNat, R)) Q → Rn (ev 45 28 [AR k, AR 2, AI (T.2.1 - T.1), AI i] [] (KS r d, ltH h b (k + 2 + e.toNat) T.1 i, R)) Q := by
  intro f
  obtain ⟨k1, k2, k3, k4⟩ := hk
  have k5 := k3 e.toNat (by omega)
  have q1 := @kd_2 r d
  have q2 := @kd_3 r d
  obtain ⟨⟨a1, a2, a3, -⟩, ⟨a4, a5, a6, -⟩, a10, a11, a12⟩ := hP
  induction f with
  | zero =>
    intro i h1 g
    have e1 : (i : Int) = T.2.1 - T.1 := by omega
    have e2 : (T.2.1 - T.1).toNat = i := by omega
    rw [e2, ← e1] at g
    rw [← e1]
    refine w_iloadn f45_28 rfl ?_
    refine w_iloadn f45_29 rfl ?_
    refine w_ic_ge (t := 61) f45_30 (by decide) (fun c1 => ?_) (fun c1 => by omega)
    exact g
  | succ f ih =>
    intro i h1 g
    have z := ih (i + 1) (by omega) g
    have e9 : (i : Int) + 1 = ((i + 1 : Nat) : Int) := by omega
    have e8 : ((i : Int)).toNat = i := by omega
    have b1 : ltH h b (k + 2 + e.toNat) T.1 i 3 (T.1 + i).toNat = b (T.1 + i).toNat := (ltH_k (by omega)).trans (by rw [a1])
    refine w_iloadn f45_28 rfl ?_
    refine w_iloadn f45_29 rfl ?_
    refine w_ic_ge (t := 61) f45_30 (by decide) (fun c1 => by omega) (fun c1 => ?_)
    refine w_aloadn f45_33 rfl (by omega) ?_
    refine w_getR f45_34 (by assumption) rfl (by omega) ?_
    refine w_aloadn f45_37 rfl (by omega) ?_
    refine w_getI f45_38 (by decide) (by assumption) (by exact (ltH_k (by omega)).trans he) ?_
    refine w_aald f45_41 (by assumption) (by decide) (by omega) (rowNm hc) (by omega) ?_
    refine w_iloadn f45_42 rfl ?_
    refine w_aloadn f45_43 rfl (by omega) ?_
    refine w_getR f45_44 (by assumption) rfl (by omega) ?_
    refine w_aloadn f45_47 rfl (by omega) ?_
    refine w_getI f45_48 (by decide) (by assumption) (by exact (ltH_k (by omega)).trans a4) ?_
    refine w_iloadn f45_51 rfl ?_
    refine w_iaddn f45_52 (by omega) ?_
    refine w_iald f45_53 (by assumption) (by omega) (by exact b1) ?_
    refine w_iast f45_54 (by assumption) (by omega) ?_
    refine w_iincn f45_55 rfl (by omega) (sto_4_3 rfl) ?_
    refine w_goto (t := 28) f45_58 (by decide) ?_
    rw [e8, ltH_s, e9]
    exact z
/-- a name more -/
def addW (w : Nat → Int) (f c : Int) (b : Nat → Int) (T : Tk) : Nat → Int := udI (naW w (f + 7 * w c.toNat) b T) c.toNat (w c.toNat + 1)
theorem s45 {k : Nat} {f c : Int} {T : Tk} (hk : ShNm (KS r d) k) (k0 : 3 < k) (hv : RNm h k w f c) (hf : 357 ≤ f) (hc0 : 0 ≤ c ∧ c ≤ 2) (hc : 0 ≤ w c.toNat ∧ w c.toNat < 10) (hl : ∀ i : Nat, (i : Int) < w c.toNat → w (f + 7 * i).toNat ≤ 6) (hP : PT h b n T) (h6 : T.2.1 - T.1 ≤ 6) : Rn (ev 45 0 [AR k, AR 2, AU, AU] [] (KS r d, h, R)) (fun o => ∃ h1, (Ot k 13 h h1 ∧ RNm h1 k (addW w f c b T) f c) ∧ o = (.inl AU, (KS r d, h1, R))) := by
  have hk1 := hk
  obtain ⟨k1, k2, k3, k4⟩ := hk
  have k5 := k3 (w c.toNat).toNat (by omega)
  have q1 := @kd_2 r d
  have hP1 := hP
  have e0 := hv.1
  obtain ⟨⟨a1, a2, a3, -⟩, ⟨a4, a5, a6, -⟩, a10, a11, a12⟩ := hP
  have eC : addW w f c b T c.toNat = w c.toNat + 1 := if_pos rfl
  have eO : ∀ y : Nat, 357 ≤ y → addW w f c b T y = naW w (f + 7 * w c.toNat) b T y := fun y hy => if_neg (by omega)
  have fin : ∀ h1 : Nat → Nat → Int, (∀ x y, k ≤ x → ¬ (x = k ∧ y = 2) → ¬ (x = k + 12 ∧ y = (w c.toNat).toNat) → h1 x y = ltH h b (k + 2 + (w c.toNat).toNat) T.1 (T.2.1 - T.1).toNat x y) → h1 k 2 = w c.toNat + 1 → h1 (k + 12) (w c.toNat).toNat = T.2.1 - T.1 → RNm h1 k (addW w f c b T) f c := fun h1 p1 p2 p3 => by
    refine ⟨p2.trans eC.symm, fun i hi => ?_⟩
    rw [eC] at hi
    by_cases e : (i : Int) = w c.toNat
    · have ei : i = (w c.toNat).toNat := by omega
      have l1 : addW w f c b T (f + 7 * i).toNat = T.2.1 - T.1 := by rw [eO _ (by omega), e]; exact naW_c (by omega)
      unfold RNm1
      rw [l1]
      refine ⟨by rw [ei]; exact p3, fun j hj => ?_⟩
      rw [eO _ (by omega), e, naW_l (by omega) (by omega) hj (by omega), p1 _ _ (by omega) (by omega) (by omega), ei]
      unfold ltH
      rw [if_pos ⟨rfl, by omega⟩]
    · have l0 := hl i (by omega)
      have l1 : ∀ y : Nat, f + 7 * i ≤ y → y ≤ f + 7 * i + 6 → addW w f c b T y = w y := fun y y1 y2 => by rw [eO _ (by omega)]; exact naW_lo (by omega)
      obtain ⟨v1, v2⟩ := hv.2 i (by omega)
      unfold RNm1
      rw [l1 _ (by omega) (by omega)]
      refine ⟨?_, fun j hj => ?_⟩
      · rw [p1 _ _ (by omega) (by omega) (by omega), ltH_k (by omega)]; exact v1
      · rw [l1 _ (by omega) (by omega), p1 _ _ (by omega) (by omega) (by omega), ltH_k (by omega)]; exact v2 j hj
  have g61 : Rn (ev 45 61 [AR k, AR 2, AI (T.2.1 - T.1), AI (T.2.1 - T.1)] [] (KS r d, ltH h b (k + 2 + (w c.toNat).toNat) T.1 (T.2.1 - T.1).toNat, R)) (fun o => ∃ h1, (Ot k 13 h h1 ∧ RNm h1 k (addW w f c b T) f c) ∧ o = (.inl AU, (KS r d, h1, R))) := by
    refine w_aloadn f45_61 rfl (by omega) ?_
    refine w_getR f45_62 (by assumption) rfl (by omega) ?_
    refine w_aloadn f45_65 rfl (by omega) ?_
    refine w_getI f45_66 (by decide) (by assumption) (by exact (ltH_k (by omega)).trans e0) ?_
    refine w_iloadn f45_69 rfl ?_
    refine w_iast f45_70 (by assumption) (by omega) ?_
    refine w_aloadn f45_71 rfl (by omega) ?_
    refine w_dup f45_72 rfl ?_
    refine w_getI f45_73 (by decide) (by assumption) (by exact (hput_k (by omega)).trans ((ltH_k (by omega)).trans e0)) ?_
    refine w_iconst (v := 1) f45_76 (by decide) ?_
    refine w_iaddn f45_77 (by omega) ?_
    refine w_putI f45_78 (by assumption) ?_
    refine w_ret f45_81 rfl ?_
    refine ⟨_, ⟨fun x y hx => (hput_k (by omega)).trans ((hput_k (by omega)).trans (ltH_k (by omega))), fin _ (fun x y x1 x2 x3 => ?_) hput_s ((hput_k (by omega)).trans hput_s)⟩, rfl⟩
    unfold hput
    rw [if_neg x2, if_neg x3]
  have z := l45 (h := h) hk1 k0 e0 hc hP1 h6 (T.2.1 - T.1).toNat 0 (by omega) g61
  rw [ltH_0] at z
  refine w_aloadn f45_0 rfl (by omega) ?_
  refine w_getI f45_1 (by decide) (by assumption) (by (try simp only [hput, hcopy, Nat.reduceEqDiff, Nat.add_left_cancel_iff, Nat.add_right_cancel_iff, Nat.left_eq_add, Nat.add_eq_left, Nat.right_eq_add, Nat.add_eq_right, Nat.reduceAdd, Nat.add_zero, Nat.succ_ne_self, Nat.one_ne_zero, Nat.zero_ne_one, eq_self, and_self, and_true, true_and, and_false, false_and, if_true, if_false, reduceIte, Int.reduceToNat, Int.toNat_natCast, a4, a5, e0]); exact rfl) ?_
  refine w_aloadn f45_4 rfl (by omega) ?_
  refine w_getI f45_5 (by decide) (by assumption) (by (try simp only [hput, hcopy, Nat.reduceEqDiff, Nat.add_left_cancel_iff, Nat.add_right_cancel_iff, Nat.left_eq_add, Nat.add_eq_left, Nat.right_eq_add, Nat.add_eq_right, Nat.reduceAdd, Nat.add_zero, Nat.succ_ne_self, Nat.one_ne_zero, Nat.zero_ne_one, eq_self, and_self, and_true, true_and, and_false, false_and, if_true, if_false, reduceIte, Int.reduceToNat, Int.toNat_natCast, a4, a5, e0]); exact rfl) ?_
  refine w_isubn f45_8 (by omega) ?_
  refine w_istoren f45_9 (Nat.le_of_ble_eq_true rfl) (sto_4_2 rfl) ?_
  refine w_aloadn f45_10 rfl (by omega) ?_
  refine w_getI f45_11 (by decide) (by assumption) (by (try simp only [hput, hcopy, Nat.reduceEqDiff, Nat.add_left_cancel_iff, Nat.add_right_cancel_iff, Nat.left_eq_add, Nat.add_eq_left, Nat.right_eq_add, Nat.add_eq_right, Nat.reduceAdd, Nat.add_zero, Nat.succ_ne_self, Nat.one_ne_zero, Nat.zero_ne_one, eq_self, and_self, and_true, true_and, and_false, false_and, if_true, if_false, reduceIte, Int.reduceToNat, Int.toNat_natCast, a4, a5, e0]); exact rfl) ?_
  refine w_bipush (v := 10) f45_14 (by decide) ?_
  refine w_ic_ge (t := 25) f45_16 (by decide) (fun c1 => by omega) (fun c1 => ?_)
  refine w_iloadn f45_19 rfl ?_
  refine w_bipush (v := 6) f45_20 (by decide) ?_
  refine w_ic_le (t := 26) f45_22 (by decide) (fun c2 => ?_) (fun c2 => by omega)
  refine w_iconst (v := 0) f45_26 (by decide) ?_
  refine w_istoren f45_27 (Nat.le_of_ble_eq_true rfl) (sto_4_3 rfl) ?_
  exact z
theorem s32 {k : Nat} {f c : Int} {T : Tk} (hk : ShNm (KS r d) k) (k0 : 3 < k) (hv : RNm h k w f c) (hf : 357 ≤ f) (hc0 : 0 ≤ c ∧ c ≤ 2) (hc : 0 ≤ w c.toNat ∧ w c.toNat < 10) (hl : ∀ i : Nat, (i : Int) < w c.toNat → w (f + 7 * i).toNat ≤ 6) (hP : PT h b n T) (h0 : h 2 6 = 0) : Rn (ev 32 0 [AR 2, AR k] [] (KS r d, h, R)) (fun o => ((isN T ∧ nhW w f c b T = -1) ∧ ∃ h1, ((∀ x y, ¬ (x = 2 ∧ 2 ≤ y ∧ y ≤ 5) → (x < k ∨ k + 13 ≤ x) → h1 x y = h x y) ∧ PT h1 b n (tok b n T.2.1) ∧ RNm h1 k (addW w f c b T) f c) ∧ o = (.inl AU, (KS r d, h1, R))) ∨ ((isN T ∧ nhW w f c b T ≠ -1) ∧ o = (.inl AU, (KS r d, fle h 3, R))) ∨ (¬ isN T ∧ o = (.inl AU, (KS r d, fle h 1, R)))) := by
  have q1 := @kd_2 r d
  have k1 := hk.1
  by_cases z : isN T
  · have e : h 2 6 = 0 ∧ isN T := ⟨h0, z⟩
    have z31 := s31 (r := r) (d := d) (R := R) hP
    rw [if_pos e, b2i_t e] at z31
    have hPo : ∀ h1, Ot k 13 h h1 → PT h1 b n T := fun h1 q => by
      obtain ⟨⟨a1, a2, a3, a0⟩, ⟨a4, a5, a6, a7⟩, a10, a11, a12⟩ := hP
      exact ⟨⟨(funext fun y => q 3 y (by omega)).trans a1, (q _ _ (by omega)).trans a2, a3, a0⟩, ⟨(q _ _ (by omega)).trans a4, (q _ _ (by omega)).trans a5, (q _ _ (by omega)).trans a6, fun z => (q _ _ (by omega)).trans (a7 z)⟩, a10, a11, a12⟩
    have hcu : addW w f c b T c.toNat ≤ 10 := by show (if c.toNat = c.toNat then w c.toNat + 1 else _) ≤ 10; rw [if_pos rfl]; omega
    refine w_aloadn f32_0 rfl (by omega) ?_
    refine w_cV f32_1 (Or.inl rfl) rfl (by omega) (okd_of (by assumption)) rfl ⟨Nat.le_of_ble_eq_true rfl, rfl, Nat.le_of_ble_eq_true rfl⟩ (en31 _) (z31) (pv31 _ _) ?_
    refine w_if_ne (t := 8) f32_4 (by decide) (fun c1 => ?_) (fun c1 => by omega)
    refine w_aloadn f32_8 rfl (by omega) ?_
    refine w_aloadn f32_9 rfl (by omega) ?_
    refine w_cV f32_10 (Or.inl rfl) rfl (by omega) (okd_of (by assumption)) rfl ⟨Nat.le_of_ble_eq_true rfl, rfl, Nat.le_of_ble_eq_true rfl⟩ (en44 _ _) (s44 hk (by omega) hv ⟨hc.1, by omega⟩ hP z.2) (pv44 _ _) ?_
    refine w_iconst (v := -1) f32_13 (by decide) ?_
    refine w_ic_eq (t := 23) f32_14 (by decide) (fun c2 => ?_) (fun c2 => ?_)
    · refine w_aloadn f32_23 rfl (by omega) ?_
      refine w_aloadn f32_24 rfl (by omega) ?_
      refine w_qV f32_25 (Or.inl rfl) rfl (by omega) (okd_of (by assumption)) rfl ⟨Nat.le_of_ble_eq_true rfl, rfl, Nat.le_of_ble_eq_true rfl⟩ (en45 _ _) (s45 hk k0 hv hf hc0 hc hl hP z.2) (fun o9 ho9 => ?_)
      obtain ⟨h1, ⟨p1, p2⟩, rfl⟩ := ho9
      refine w_bok (pv45 _ _) ?_
      refine w_aloadn f32_28 rfl (by omega) ?_
      refine w_qV f32_29 (Or.inl rfl) rfl (by omega) (okd_of (by assumption)) rfl ⟨Nat.le_of_ble_eq_true rfl, rfl, Nat.le_of_ble_eq_true rfl⟩ (en25 _) (s25p (hPo _ p1)) (fun o9 ho9 => ?_)
      obtain ⟨h2, ⟨u1, u2⟩, rfl⟩ := ho9
      refine w_bok (pv25 _ _) ?_
      refine w_ret f32_32 rfl ?_
      first | exact Or.inl ⟨⟨z, by assumption⟩, h2, ⟨fun x y x1 x2 => (u1 x y x1).trans (p1 x y x2), u2, p2.fr hcu (fun x y x1 x2 => u1 x y (by omega))⟩, rfl⟩ | exact Or.inr (Or.inl ⟨⟨z, by assumption⟩, rfl⟩)
    · refine w_aloadn f32_17 rfl (by omega) ?_
      refine w_iconst (v := 3) f32_18 (by decide) ?_
      refine w_cV f32_19 (Or.inl rfl) rfl (by omega) (okd_of (by assumption)) rfl ⟨Nat.le_of_ble_eq_true rfl, rfl, Nat.le_of_ble_eq_true rfl⟩ (en24 _ _) (s24) (pv24 _ _) ?_
      refine w_ret f32_22 rfl ?_
      first | exact Or.inl ⟨⟨z, by assumption⟩, h2, ⟨fun x y x1 x2 => (u1 x y x1).trans (p1 x y x2), u2, p2.fr hcu (fun x y x1 x2 => u1 x y (by omega))⟩, rfl⟩ | exact Or.inr (Or.inl ⟨⟨z, by assumption⟩, rfl⟩)
  · have e : ¬ (h 2 6 = 0 ∧ isN T) := fun q => z q.2
    have z31 := s31 (r := r) (d := d) (R := R) hP
    rw [if_neg e, b2i_f e] at z31
    refine w_aloadn f32_0 rfl (by omega) ?_
    refine w_cV f32_1 (Or.inl rfl) rfl (by omega) (okd_of (by assumption)) rfl ⟨Nat.le_of_ble_eq_true rfl, rfl, Nat.le_of_ble_eq_true rfl⟩ (en31 _) (z31) (pv31 _ _) ?_
    refine w_if_ne (t := 8) f32_4 (by decide) (fun c1 => by omega) (fun c1 => ?_)
    refine w_ret f32_7 rfl ?_
    exact Or.inr (Or.inr ⟨z, rfl⟩)
theorem s32f {k : Nat} {T : Tk} (hP : PT h b n T) (h0 : h 2 6 ≠ 0) : ev 32 0 [AR 2, AR k] [] (KS r d, h, R) = some (.inl AU, (KS r d, h, R)) := by
  refine Rn.eq ?_
  have q1 := @kd_2 r d
  have e : ¬ (h 2 6 = 0 ∧ isN T) := fun q => h0 q.1
  have z31 := s31 (r := r) (d := d) (R := R) hP
  rw [if_neg e, b2i_f e, fle_n h0] at z31
  refine w_aloadn f32_0 rfl (by omega) ?_
  refine w_cV f32_1 (Or.inl rfl) rfl (by omega) (okd_of (by assumption)) rfl ⟨Nat.le_of_ble_eq_true rfl, rfl, Nat.le_of_ble_eq_true rfl⟩ (en31 _) (z31) (pv31 _ _) ?_
  refine w_if_ne (t := 8) f32_4 (by decide) (fun c1 => by omega) (fun c1 => ?_)
  refine w_ret f32_7 rfl ?_
  rfl
end A

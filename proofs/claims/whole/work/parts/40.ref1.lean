/-! the reference's small methods -/
theorem ob_b {p q : Prop} {σ : Sg} (h : p ↔ q) : ((Sum.inl (AI (b2i p)), σ) : Out) = (Sum.inl (AI (b2i q)), σ) := by rw [propext h]
section A
variable {K : List AKd} {h : Nat → Nat → Int} {R : R4} {σ : Sg} {r d : Nat}
theorem s148 {v a b : Int} : ev 148 0 [AI v, AI a, AI b] [] σ = some (.inl (AI (b2i (a ≤ v ∧ v ≤ b))), σ) := by
  refine Rn.eq ?_
  refine w_iloadn f148_0 rfl ?_
  refine w_iloadn f148_1 rfl ?_
  refine w_ic_lt (t := 14) f148_2 (by decide) (fun c1 => ?_) (fun c1 => ?_)
  · refine w_iconst (v := 0) f148_14 (by decide) ?_
    refine w_zret f148_15 rfl (by decide) ?_
    first | exact ob_t (by omega) | exact ob_f (by omega)
  · refine w_iloadn f148_5 rfl ?_
    refine w_iloadn f148_6 rfl ?_
    refine w_ic_gt (t := 14) f148_7 (by decide) (fun c2 => ?_) (fun c2 => ?_)
    · refine w_iconst (v := 0) f148_14 (by decide) ?_
      refine w_zret f148_15 rfl (by decide) ?_
      first | exact ob_t (by omega) | exact ob_f (by omega)
    · refine w_iconst (v := 1) f148_10 (by decide) ?_
      refine w_goto (t := 15) f148_11 (by decide) ?_
      refine w_zret f148_15 rfl (by decide) ?_
      first | exact ob_t (by omega) | exact ob_f (by omega)
theorem s149 {p : Prop} : ev 149 0 [AI (b2i p)] [] σ = some (.inl (AI (b2i p)), σ) := by
  refine Rn.eq ?_
  refine w_iloadn f149_0 rfl ?_
  refine w_ifb_eq (t := 8) f149_1 (by decide) (fun c1 => ?_) (fun c1 => ?_)
  · refine w_iconst (v := 0) f149_8 (by decide) ?_
    refine w_iret f149_9 rfl ?_
    first | exact ob_t c1 | exact ob_f c1
  · refine w_iconst (v := 1) f149_4 (by decide) ?_
    refine w_goto (t := 9) f149_5 (by decide) ?_
    refine w_iret f149_9 rfl ?_
    first | exact ob_t c1 | exact ob_f c1
theorem s149i {x : Int} (hx : x = 0 ∨ x = 1) : ev 149 0 [AI x] [] σ = some (.inl (AI x), σ) := by
  refine Rn.eq ?_
  refine w_iloadn f149_0 rfl ?_
  refine w_if_eq (t := 8) f149_1 (by decide) (fun c1 => ?_) (fun c1 => ?_)
  · refine w_iconst (v := 0) f149_8 (by decide) ?_
    refine w_iret f149_9 rfl ?_
    first | (rw [show x = 1 by omega]; done) | (rw [show x = 0 by omega]; done)
  · refine w_iconst (v := 1) f149_4 (by decide) ?_
    refine w_goto (t := 9) f149_5 (by decide) ?_
    refine w_iret f149_9 rfl ?_
    first | (rw [show x = 1 by omega]; done) | (rw [show x = 0 by omega]; done)
theorem s150 {x c : Int} (hx : x = 0 ∨ x = 1) : ev 150 0 [AR 268, AI x, AI c] [] (KS r d, h, R) = some (.inl (AI x), (KS r d, if x = 1 then hput h 268 6 c else h, R)) := by
  refine Rn.eq ?_
  have k0 := @kd_268 r d
  refine w_iloadn f150_0 rfl ?_
  refine w_if_eq (t := 9) f150_1 (by decide) (fun c1 => ?_) (fun c1 => ?_)
  · refine w_iloadn f150_9 rfl ?_
    refine w_zret f150_10 rfl (by omega) ?_
    first | (rw [if_pos (by omega)]; done) | (rw [if_neg (by omega)]; done)
  · refine w_aloadn f150_4 rfl (by omega) ?_
    refine w_iloadn f150_5 rfl ?_
    refine w_putI f150_6 (by assumption) ?_
    refine w_iloadn f150_9 rfl ?_
    refine w_zret f150_10 rfl (by omega) ?_
    first | (rw [if_pos (by omega)]; done) | (rw [if_neg (by omega)]; done)
def tr (w : Nat → Int) (t j : Int) : Int := w (93 + 9 * t + j).toNat
def iv (w : Nat → Int) (i j : Int) : Int := w (309 + 4 * i + j).toNat
theorem s154 {t j : Int} (h1 : 0 ≤ t ∧ t < 24) (h2 : 0 ≤ j ∧ j < 9) : ev 154 0 [AR 268, AI t, AI j] [] (KS r d, h, R) = some (.inl (AI (tr (h 269) t j)), (KS r d, h, R)) := by
  refine Rn.eq ?_
  have k0 := @kd_268 r d
  have k1 := @kd_269 r d
  refine w_aloadn f154_0 rfl (by omega) ?_
  refine w_getR f154_1 (by assumption) rfl (by omega) ?_
  refine w_bipush (v := 93) f154_4 (by decide) ?_
  refine w_bipush (v := 9) f154_6 (by decide) ?_
  refine w_iloadn f154_8 rfl ?_
  refine w_imuln f154_9 (by omega) ?_
  refine w_iaddn f154_10 (by omega) ?_
  refine w_iloadn f154_11 rfl ?_
  refine w_iaddn f154_12 (by omega) ?_
  refine w_iald f154_13 (by assumption) (by omega) (by (try simp only [hput, hcopy, Nat.reduceEqDiff, Nat.add_left_cancel_iff, Nat.add_right_cancel_iff, Nat.left_eq_add, Nat.add_eq_left, Nat.right_eq_add, Nat.add_eq_right, Nat.reduceAdd, Nat.add_zero, Nat.succ_ne_self, Nat.one_ne_zero, Nat.zero_ne_one, eq_self, and_self, and_true, true_and, and_false, false_and, if_true, if_false, reduceIte, Int.reduceToNat, Int.toNat_natCast]); exact rfl) ?_
  refine w_iret f154_14 rfl ?_
  exact rfl
theorem s155 {t j : Int} (h1 : 0 ≤ t ∧ t < 12) (h2 : 0 ≤ j ∧ j < 4) : ev 155 0 [AR 268, AI t, AI j] [] (KS r d, h, R) = some (.inl (AI (iv (h 269) t j)), (KS r d, h, R)) := by
  refine Rn.eq ?_
  have k0 := @kd_268 r d
  have k1 := @kd_269 r d
  refine w_aloadn f155_0 rfl (by omega) ?_
  refine w_getR f155_1 (by assumption) rfl (by omega) ?_
  refine w_sipush (v := 309) f155_4 (by decide) ?_
  refine w_iconst (v := 4) f155_7 (by decide) ?_
  refine w_iloadn f155_8 rfl ?_
  refine w_imuln f155_9 (by omega) ?_
  refine w_iaddn f155_10 (by omega) ?_
  refine w_iloadn f155_11 rfl ?_
  refine w_iaddn f155_12 (by omega) ?_
  refine w_iald f155_13 (by assumption) (by omega) (by (try simp only [hput, hcopy, Nat.reduceEqDiff, Nat.add_left_cancel_iff, Nat.add_right_cancel_iff, Nat.left_eq_add, Nat.add_eq_left, Nat.right_eq_add, Nat.add_eq_right, Nat.reduceAdd, Nat.add_zero, Nat.succ_ne_self, Nat.one_ne_zero, Nat.zero_ne_one, eq_self, and_self, and_true, true_and, and_false, false_and, if_true, if_false, reduceIte, Int.reduceToNat, Int.toNat_natCast]); exact rfl) ?_
  refine w_iret f155_14 rfl ?_
  exact rfl
theorem s164 {c : Int} (h1 : 0 ≤ c) : ev 164 0 [AI c] [] σ = some (.inl (AI (c / 1000)), σ) := by
  refine Rn.eq ?_
  refine w_iloadn f164_0 rfl ?_
  refine w_sipush (v := 1000) f164_1 (by decide) ?_
  refine w_idiv f164_4 (by omega) ?_
  refine w_iret f164_5 rfl ?_
  exact rfl
def wt (i : Int) : Int := if i = 0 then 1 else if i = 1 then 10 else 100
theorem wt_pos (i : Int) : 0 < wt i ∧ wt i ≤ 100 := by unfold wt; split <;> (try split) <;> omega
def vIn (c i : Int) : Int := c / wt i % 10
theorem vIn_r (c i : Int) : 0 ≤ vIn c i ∧ vIn c i ≤ 9 := by unfold vIn; omega
def withV (c i v : Int) : Int := c + wt i * (v - vIn c i)
theorem s165 {i : Int} : ev 165 0 [AI i] [] σ = some (.inl (AI (wt i)), σ) := by
  refine Rn.eq ?_
  refine w_iloadn f165_0 rfl ?_
  refine w_if_ne (t := 8) f165_1 (by decide) (fun c1 => ?_) (fun c1 => ?_)
  · refine w_iloadn f165_8 rfl ?_
    refine w_iconst (v := 1) f165_9 (by decide) ?_
    refine w_ic_ne (t := 18) f165_10 (by decide) (fun c2 => ?_) (fun c2 => ?_)
    · refine w_bipush (v := 100) f165_18 (by decide) ?_
      refine w_iret f165_20 rfl ?_
      unfold wt
      simp [*]
    · refine w_bipush (v := 10) f165_13 (by decide) ?_
      refine w_goto (t := 20) f165_15 (by decide) ?_
      refine w_iret f165_20 rfl ?_
      unfold wt
      simp [*]
  · refine w_iconst (v := 1) f165_4 (by decide) ?_
    refine w_goto (t := 20) f165_5 (by decide) ?_
    refine w_iret f165_20 rfl ?_
    unfold wt
    simp [*]
theorem s166 {c i : Int} (h1 : 0 ≤ c) : ev 166 0 [AI c, AI i] [] σ = some (.inl (AI (vIn c i)), σ) := by
  refine Rn.eq ?_
  have hw := wt_pos i
  have hd : 0 ≤ c / wt i := Int.ediv_nonneg h1 (by omega)
  refine w_iloadn f166_0 rfl ?_
  refine w_iloadn f166_1 rfl ?_
  refine w_cS f166_2 (Or.inl rfl) (Nat.le_of_ble_eq_true rfl) rfl rfl ⟨Nat.le_of_ble_eq_true rfl, rfl, Nat.le_of_ble_eq_true rfl⟩ (en165 _) (s165) (pv165 _ _) ?_
  refine w_idiv f166_5 (by omega) ?_
  refine w_bipush (v := 10) f166_6 (by decide) ?_
  refine w_irem f166_8 (by omega) ?_
  refine w_iret f166_9 rfl ?_
  exact rfl
theorem wtv_r (c i v : Int) (h : 0 ≤ v ∧ v ≤ 9) : -1000 ≤ wt i * (v - vIn c i) ∧ wt i * (v - vIn c i) ≤ 1000 := by
  have h1 := vIn_r c i
  unfold wt
  split <;> (try split) <;> omega
theorem s167 {c i v : Int} (h1 : 0 ≤ c ∧ c ≤ 100000) (h2 : 0 ≤ v ∧ v ≤ 9) : ev 167 0 [AI c, AI i, AI v] [] σ = some (.inl (AI (withV c i v)), σ) := by
  refine Rn.eq ?_
  have hw := vIn_r c i
  have hx := wtv_r c i v h2
  refine w_iloadn f167_0 rfl ?_
  refine w_iloadn f167_1 rfl ?_
  refine w_cS f167_2 (Or.inl rfl) (Nat.le_of_ble_eq_true rfl) rfl rfl ⟨Nat.le_of_ble_eq_true rfl, rfl, Nat.le_of_ble_eq_true rfl⟩ (en165 _) (s165) (pv165 _ _) ?_
  refine w_iloadn f167_5 rfl ?_
  refine w_iloadn f167_6 rfl ?_
  refine w_iloadn f167_7 rfl ?_
  refine w_cS f167_8 (Or.inl rfl) (Nat.le_of_ble_eq_true rfl) rfl rfl ⟨Nat.le_of_ble_eq_true rfl, rfl, Nat.le_of_ble_eq_true rfl⟩ (en166 _ _) (s166 (by omega)) (pv166 _ _) ?_
  refine w_isubn f167_11 (by omega) ?_
  refine w_imuln f167_12 (by omega) ?_
  refine w_iaddn f167_13 (by omega) ?_
  refine w_iret f167_14 rfl ?_
  exact rfl
def cmpB (v op c : Int) : Bool := if op = 0 then decide (v < c) else if op = 1 then decide (v ≤ c) else if op = 2 then decide (v = c) else if op = 3 then decide (v ≠ c) else if op = 4 then decide (c ≤ v) else decide (c < v)
theorem s168 {v op c : Int} : ev 168 0 [AI v, AI op, AI c] [] σ = some (.inl (AI (b2i (cmpB v op c = true))), σ) := by
  refine Rn.eq ?_
  refine w_iloadn f168_0 rfl ?_
  rcases (show op = 0 ∨ op = 1 ∨ op = 2 ∨ op = 3 ∨ op = 4 ∨ (op < 0 ∨ 4 < op) by omega) with c1 | c1 | c1 | c1 | c1 | c1
  · refine w_tab (t := 36) f168_1 (by omega) (by rw [c1]; rfl) (by decide) ?_
    refine w_iloadn f168_36 rfl ?_
    refine w_iloadn f168_37 rfl ?_
    refine w_ic_ge (t := 45) f168_38 (by decide) (fun c2 => ?_) (fun c2 => ?_)
    · refine w_iconst (v := 0) f168_45 (by decide) ?_
      refine w_zret f168_46 rfl (by decide) ?_
      first | (refine ob_t ?_; unfold cmpB; simp [*]; done) | (refine ob_f ?_; unfold cmpB; simp [*]; done) | (refine ob_t ?_; unfold cmpB; rw [if_neg (by omega), if_neg (by omega), if_neg (by omega), if_neg (by omega), if_neg (by omega)]; simp [*]; done) | (refine ob_f ?_; unfold cmpB; rw [if_neg (by omega), if_neg (by omega), if_neg (by omega), if_neg (by omega), if_neg (by omega)]; simp [*]; done)
    · refine w_iconst (v := 1) f168_41 (by decide) ?_
      refine w_goto (t := 46) f168_42 (by decide) ?_
      refine w_zret f168_46 rfl (by decide) ?_
      first | (refine ob_t ?_; unfold cmpB; simp [*]; done) | (refine ob_f ?_; unfold cmpB; simp [*]; done) | (refine ob_t ?_; unfold cmpB; rw [if_neg (by omega), if_neg (by omega), if_neg (by omega), if_neg (by omega), if_neg (by omega)]; simp [*]; done) | (refine ob_f ?_; unfold cmpB; rw [if_neg (by omega), if_neg (by omega), if_neg (by omega), if_neg (by omega), if_neg (by omega)]; simp [*]; done)
  · refine w_tab (t := 47) f168_1 (by omega) (by rw [c1]; rfl) (by decide) ?_
    refine w_iloadn f168_47 rfl ?_
    refine w_iloadn f168_48 rfl ?_
    refine w_ic_gt (t := 56) f168_49 (by decide) (fun c3 => ?_) (fun c3 => ?_)
    · refine w_iconst (v := 0) f168_56 (by decide) ?_
      refine w_zret f168_57 rfl (by decide) ?_
      first | (refine ob_t ?_; unfold cmpB; simp [*]; done) | (refine ob_f ?_; unfold cmpB; simp [*]; done) | (refine ob_t ?_; unfold cmpB; rw [if_neg (by omega), if_neg (by omega), if_neg (by omega), if_neg (by omega), if_neg (by omega)]; simp [*]; done) | (refine ob_f ?_; unfold cmpB; rw [if_neg (by omega), if_neg (by omega), if_neg (by omega), if_neg (by omega), if_neg (by omega)]; simp [*]; done)
    · refine w_iconst (v := 1) f168_52 (by decide) ?_
      refine w_goto (t := 57) f168_53 (by decide) ?_
      refine w_zret f168_57 rfl (by decide) ?_
      first | (refine ob_t ?_; unfold cmpB; simp [*]; done) | (refine ob_f ?_; unfold cmpB; simp [*]; done) | (refine ob_t ?_; unfold cmpB; rw [if_neg (by omega), if_neg (by omega), if_neg (by omega), if_neg (by omega), if_neg (by omega)]; simp [*]; done) | (refine ob_f ?_; unfold cmpB; rw [if_neg (by omega), if_neg (by omega), if_neg (by omega), if_neg (by omega), if_neg (by omega)]; simp [*]; done)
  · refine w_tab (t := 58) f168_1 (by omega) (by rw [c1]; rfl) (by decide) ?_
    refine w_iloadn f168_58 rfl ?_
    refine w_iloadn f168_59 rfl ?_
    refine w_ic_ne (t := 67) f168_60 (by decide) (fun c4 => ?_) (fun c4 => ?_)
    · refine w_iconst (v := 0) f168_67 (by decide) ?_
      refine w_zret f168_68 rfl (by decide) ?_
      first | (refine ob_t ?_; unfold cmpB; simp [*]; done) | (refine ob_f ?_; unfold cmpB; simp [*]; done) | (refine ob_t ?_; unfold cmpB; rw [if_neg (by omega), if_neg (by omega), if_neg (by omega), if_neg (by omega), if_neg (by omega)]; simp [*]; done) | (refine ob_f ?_; unfold cmpB; rw [if_neg (by omega), if_neg (by omega), if_neg (by omega), if_neg (by omega), if_neg (by omega)]; simp [*]; done)
    · refine w_iconst (v := 1) f168_63 (by decide) ?_
      refine w_goto (t := 68) f168_64 (by decide) ?_
      refine w_zret f168_68 rfl (by decide) ?_
      first | (refine ob_t ?_; unfold cmpB; simp [*]; done) | (refine ob_f ?_; unfold cmpB; simp [*]; done) | (refine ob_t ?_; unfold cmpB; rw [if_neg (by omega), if_neg (by omega), if_neg (by omega), if_neg (by omega), if_neg (by omega)]; simp [*]; done) | (refine ob_f ?_; unfold cmpB; rw [if_neg (by omega), if_neg (by omega), if_neg (by omega), if_neg (by omega), if_neg (by omega)]; simp [*]; done)
  · refine w_tab (t := 69) f168_1 (by omega) (by rw [c1]; rfl) (by decide) ?_
    refine w_iloadn f168_69 rfl ?_
    refine w_iloadn f168_70 rfl ?_
    refine w_ic_eq (t := 78) f168_71 (by decide) (fun c5 => ?_) (fun c5 => ?_)
    · refine w_iconst (v := 0) f168_78 (by decide) ?_
      refine w_zret f168_79 rfl (by decide) ?_
      first | (refine ob_t ?_; unfold cmpB; simp [*]; done) | (refine ob_f ?_; unfold cmpB; simp [*]; done) | (refine ob_t ?_; unfold cmpB; rw [if_neg (by omega), if_neg (by omega), if_neg (by omega), if_neg (by omega), if_neg (by omega)]; simp [*]; done) | (refine ob_f ?_; unfold cmpB; rw [if_neg (by omega), if_neg (by omega), if_neg (by omega), if_neg (by omega), if_neg (by omega)]; simp [*]; done)
    · refine w_iconst (v := 1) f168_74 (by decide) ?_
      refine w_goto (t := 79) f168_75 (by decide) ?_
      refine w_zret f168_79 rfl (by decide) ?_
      first | (refine ob_t ?_; unfold cmpB; simp [*]; done) | (refine ob_f ?_; unfold cmpB; simp [*]; done) | (refine ob_t ?_; unfold cmpB; rw [if_neg (by omega), if_neg (by omega), if_neg (by omega), if_neg (by omega), if_neg (by omega)]; simp [*]; done) | (refine ob_f ?_; unfold cmpB; rw [if_neg (by omega), if_neg (by omega), if_neg (by omega), if_neg (by omega), if_neg (by omega)]; simp [*]; done)
  · refine w_tab (t := 80) f168_1 (by omega) (by rw [c1]; rfl) (by decide) ?_
    refine w_iloadn f168_80 rfl ?_
    refine w_iloadn f168_81 rfl ?_
    refine w_ic_lt (t := 89) f168_82 (by decide) (fun c6 => ?_) (fun c6 => ?_)
    · refine w_iconst (v := 0) f168_89 (by decide) ?_
      refine w_zret f168_90 rfl (by decide) ?_
      first | (refine ob_t ?_; unfold cmpB; simp [*]; done) | (refine ob_f ?_; unfold cmpB; simp [*]; done) | (refine ob_t ?_; unfold cmpB; rw [if_neg (by omega), if_neg (by omega), if_neg (by omega), if_neg (by omega), if_neg (by omega)]; simp [*]; done) | (refine ob_f ?_; unfold cmpB; rw [if_neg (by omega), if_neg (by omega), if_neg (by omega), if_neg (by omega), if_neg (by omega)]; simp [*]; done)
    · refine w_iconst (v := 1) f168_85 (by decide) ?_
      refine w_goto (t := 90) f168_86 (by decide) ?_
      refine w_zret f168_90 rfl (by decide) ?_
      first | (refine ob_t ?_; unfold cmpB; simp [*]; done) | (refine ob_f ?_; unfold cmpB; simp [*]; done) | (refine ob_t ?_; unfold cmpB; rw [if_neg (by omega), if_neg (by omega), if_neg (by omega), if_neg (by omega), if_neg (by omega)]; simp [*]; done) | (refine ob_f ?_; unfold cmpB; rw [if_neg (by omega), if_neg (by omega), if_neg (by omega), if_neg (by omega), if_neg (by omega)]; simp [*]; done)
  · refine w_tabd (t := 91) f168_1 (by omega) (by decide) ?_
    refine w_iloadn f168_91 rfl ?_
    refine w_iloadn f168_92 rfl ?_
    refine w_ic_le (t := 100) f168_93 (by decide) (fun c7 => ?_) (fun c7 => ?_)
    · refine w_iconst (v := 0) f168_100 (by decide) ?_
      refine w_zret f168_101 rfl (by decide) ?_
      first | (refine ob_t ?_; unfold cmpB; simp [*]; done) | (refine ob_f ?_; unfold cmpB; simp [*]; done) | (refine ob_t ?_; unfold cmpB; rw [if_neg (by omega), if_neg (by omega), if_neg (by omega), if_neg (by omega), if_neg (by omega)]; simp [*]; done) | (refine ob_f ?_; unfold cmpB; rw [if_neg (by omega), if_neg (by omega), if_neg (by omega), if_neg (by omega), if_neg (by omega)]; simp [*]; done)
    · refine w_iconst (v := 1) f168_96 (by decide) ?_
      refine w_goto (t := 101) f168_97 (by decide) ?_
      refine w_zret f168_101 rfl (by decide) ?_
      first | (refine ob_t ?_; unfold cmpB; simp [*]; done) | (refine ob_f ?_; unfold cmpB; simp [*]; done) | (refine ob_t ?_; unfold cmpB; rw [if_neg (by omega), if_neg (by omega), if_neg (by omega), if_neg (by omega), if_neg (by omega)]; simp [*]; done) | (refine ob_f ?_; unfold cmpB; rw [if_neg (by omega), if_neg (by omega), if_neg (by omega), if_neg (by omega), if_neg (by omega)]; simp [*]; done)
end A

/-! the class's counts, IV: accept -/
section A
variable {K : List AKd} {h : Nat → Nat → Int} {R : R4} {σ : Sg} {r d : Nat} {w : Nat → Int} {b : Nat → Int} {n : Int}
/-- the cells of a above i, to the 19th, hold what stood one below -/
def sfT (h : Nat → Nat → Int) (a i : Nat) : Nat → Nat → Int := fun x y => if x = a ∧ i < y ∧ y ≤ 19 then h x (y - 1) else h x y
theorem sfT_19 {a : Nat} : sfT h a 19 = h := funext fun x => funext fun y => if_neg (by omega)
theorem sfT_s {a i : Nat} (hi : i < 19) : hput (sfT h a (i + 1)) a (i + 1) (sfT h a (i + 1) a i) = sfT h a i := by
  refine funext fun x => funext fun y => ?_
  have e0 : sfT h a (i + 1) a i = h a i := if_neg (by omega)
  rw [e0]
  unfold hput sfT
  by_cases e : x = a ∧ y = i + 1
  · rw [if_pos e, if_pos (by omega), e.1, e.2]
    rfl
  · rw [if_neg e]
    by_cases e2 : x = a ∧ i + 1 < y ∧ y ≤ 19
    · rw [if_pos e2, if_pos (by omega)]
    · rw [if_neg e2, if_neg (by omega)]
theorem sfT_k {a i x y : Nat} (hx : x ≠ a) : sfT h a i x y = h x y := if_neg (fun e => hx e.1)
theorem Ot.sf {a m k j : Nat} {h1 : Nat → Nat → Int} (p : Ot a m h h1) (h2 : a ≤ k) (h3 : k < a + m) : Ot a m h (sfT h1 k j) := fun x y z => (sfT_k (by omega)).trans (p x y z)
theorem l6 {k : Nat} {t x : Int} {Q : Out → Prop} (hk : ShCv (KS r d) k) (k0 : 0 < k) (g : Rn (ev 6 57 [AR k, AI t, AI x, AI 0] [] (KS r d, sfT h (k + 4) 0, R)) Q) : ∀ i : Nat, i ≤ 19 → Rn (ev 6 33 [AR k, AI t, AI x, AI i] [] (KS r d, sfT h (k + 4) i, R)) Q := by
  intro i
  obtain ⟨k1, k2, k3, k4, k5⟩ := hk
  induction i with
  | zero =>
    intro h1
    refine w_iloadn f6_33 rfl ?_
    refine w_if_le (t := 57) f6_34 (by decide) (fun c1 => ?_) (fun c1 => by omega)
    exact g
  | succ i ih =>
    intro h1
    have e1 : (((i + 1 : Nat) : Int) - 1).toNat = i := by omega
    have e2 : ((i + 1 : Nat) : Int).toNat = i + 1 := by omega
    have e3 : ((i + 1 : Nat) : Int) + -1 = i := by omega
    have z := ih (by omega)
    rw [← sfT_s (show i < 19 by omega)] at z
    refine w_iloadn f6_33 rfl ?_
    refine w_if_le (t := 57) f6_34 (by decide) (fun c1 => by omega) (fun c1 => ?_)
    refine w_aloadn f6_37 rfl (by omega) ?_
    refine w_getR f6_38 (by assumption) rfl (by omega) ?_
    refine w_iloadn f6_41 rfl ?_
    refine w_aloadn f6_42 rfl (by omega) ?_
    refine w_getR f6_43 (by assumption) rfl (by omega) ?_
    refine w_iloadn f6_46 rfl ?_
    refine w_iconst (v := 1) f6_47 (by decide) ?_
    refine w_isubn f6_48 (by omega) ?_
    refine w_iald f6_49 (by assumption) (by omega) (by exact rfl) ?_
    refine w_iast f6_50 (by assumption) (by omega) ?_
    refine w_iincn f6_51 rfl (by omega) (sto_4_3 rfl) ?_
    refine w_goto (t := 33) f6_54 (by decide) ?_
    rw [e1, e2, e3]
    exact z
theorem ac0W_12 {nx t : Int} (h1 : 0 ≤ nx ∧ nx ≤ 9999) (h2 : 0 ≤ t ∧ t < 24) : ac0W w nx t 12 = wr (w 12 + 1) := by
  unfold ac0W udI
  rw [if_neg (by omega), if_neg (by omega), if_pos rfl]
theorem ac0W_t {nx t : Int} (h1 : 0 ≤ nx ∧ nx ≤ 9999) (h2 : 0 ≤ t ∧ t < 24) {y : Nat} (hy : y < 24) : ac0W w nx t (69 + y) = if (y : Int) = t then wr (w (69 + y) + 1) else w (69 + y) := by
  unfold ac0W udI
  by_cases e : (y : Int) = t
  · have e2 : (69 + t).toNat = 69 + y := by omega
    rw [if_pos e, if_neg (by omega), if_pos (by omega), e2]
  · rw [if_neg e, if_neg (by omega), if_neg (by omega), if_neg (by omega), if_neg (by omega), if_neg (by omega), if_neg (by omega), if_neg (by omega)]
theorem ac0W_s {nx t : Int} (h1 : 0 ≤ nx ∧ nx ≤ 9999) (h2 : 0 ≤ t ∧ t < 24) {y : Nat} (hy : y < 10) : ac0W w nx t (59 + y) = if (y : Int) = nx / 1000 then wr (w (59 + y) + 1) else w (59 + y) := by
  unfold ac0W udI
  by_cases e : (y : Int) = nx / 1000
  · have e2 : (59 + nx / 1000).toNat = 59 + y := by omega
    rw [if_pos e, if_pos (by omega), e2]
  · rw [if_neg e, if_neg (by omega), if_neg (by omega), if_neg (by omega), if_neg (by omega), if_neg (by omega), if_neg (by omega), if_neg (by omega)]
/-- the heap when the trace is shifted -/
def acH (h : Nat → Nat → Int) (k : Nat) (t x : Int) : Nat → Nat → Int := hput (hput (hput h k 3 (wr (h k 3 + 1))) (k + 1) t.toNat (wr (h (k + 1) t.toNat + 1))) (k + 2) x.toNat (wr (h (k + 2) x.toNat + 1))
theorem l6b {k : Nat} {nx t e x v : Int} (hk : ShCv (KS r d) k) (k0 : 0 < k) (hx : x = nx / 1000) (hv : v = 0) (h1 : 0 ≤ nx ∧ nx ≤ 9999) (h2 : 0 ≤ t ∧ t < 24) (h8 : 0 ≤ w 18 ∧ w 18 ≤ 20) (q : RCv h k w) : Rn (ev 6 57 [AR k, AI t, AI x, AI v] [] (KS r d, sfT (acH h k t x) (k + 4) 0, R)) (fun o => ∃ h1, (Ot k 5 h h1 ∧ RCv h1 k (trcW (ac0W w nx t) e t)) ∧ o = (.inl AU, (KS r d, h1, R))) := by
  obtain ⟨k1, k2, k3, k4, k5⟩ := hk
  obtain ⟨⟨a1, a2, a3⟩, a4, a5, ⟨a6, a7⟩, a8⟩ := q
  have hx9 : 0 ≤ x ∧ x < 10 := by omega
  have e18 : ac0W w nx t 18 = w 18 := ac0W_o h1 h2 (by omega)
  have h8' : 0 ≤ ac0W w nx t 18 ∧ ac0W w nx t 18 ≤ 20 := by rw [e18]; exact h8
  have f3 : acH h k t x k 3 = wr (w 12 + 1) := by
    unfold acH
    rw [hput_k (by omega), hput_k (by omega), hput_s, a1]
  have f4 : acH h k t x k 4 = w 17 := by
    unfold acH
    rw [hput_k (by omega), hput_k (by omega), hput_j (by decide), a2]
  have f6 : acH h k t x k 6 = w 18 := by
    unfold acH
    rw [hput_k (by omega), hput_k (by omega), hput_j (by decide), a3]
  have o : ∀ y : Nat, (y < 18 ∨ 59 ≤ y) → trcW (ac0W w nx t) e t y = ac0W w nx t y := fun y hy => trcW_o h8' hy
  have oo : Ot k 5 h (sfT (acH h k t x) (k + 4) 0) := (((Ot.rf.put (by omega) (by omega)).put (by omega) (by omega)).put (by omega) (by omega)).sf (by omega) (by omega)
  have g1 : ∀ y : Nat, y < 24 → acH h k t x (k + 1) y = ac0W w nx t (69 + y) := fun y hy => by
    rw [ac0W_t h1 h2 hy]
    unfold acH
    rw [hput_k (by omega)]
    by_cases z : (y : Int) = t
    · have e2 : y = t.toNat := by omega
      rw [if_pos z, e2, hput_s, a4 _ (by omega)]
    · rw [if_neg z, hput_j (by omega), hput_k (by omega), a4 _ hy]
  have g2 : ∀ y : Nat, y < 10 → acH h k t x (k + 2) y = ac0W w nx t (59 + y) := fun y hy => by
    rw [ac0W_s h1 h2 hy]
    unfold acH
    by_cases z : (y : Int) = nx / 1000
    · have e2 : y = x.toNat := by omega
      rw [if_pos z, e2, hput_s, a5 _ (by omega)]
    · rw [if_neg z, hput_j (by omega), hput_k (by omega), hput_k (by omega), a5 _ hy]
  have g3 : ∀ y : Nat, acH h k t x (k + 3) y = h (k + 3) y := fun y => by
    unfold acH
    rw [hput_k (by omega), hput_k (by omega), hput_k (by omega)]
  have g4 : ∀ y : Nat, acH h k t x (k + 4) y = h (k + 4) y := fun y => by
    unfold acH
    rw [hput_k (by omega), hput_k (by omega), hput_k (by omega)]
  have fin : ∀ h1 : Nat → Nat → Int, (∀ x y, x ≠ k → x ≠ k + 4 → h1 x y = sfT (acH h k t x) (k + 4) 0 x y) → True := fun _ _ => trivial
  have fN : ∀ z : Int, z = trcN (ac0W w nx t) → ∀ h3 : Nat → Nat → Int, h3 k 6 = z → h3 k 3 = wr (w 12 + 1) → h3 k 4 = w 17 → h3 (k + 4) 0 = t → (∀ y : Nat, y < 19 → h3 (k + 4) (y + 1) = h (k + 4) y) → (∀ y, h3 (k + 1) y = acH h k t x (k + 1) y) → (∀ y, h3 (k + 2) y = acH h k t x (k + 2) y) → (∀ y, h3 (k + 3) y = acH h k t x (k + 3) y) → RCv h3 k (trcW (ac0W w nx t) e t) := fun z hz h3 p1 p2 p3 p4 p5 p6 p7 p8 => by
    have hn := trcN_r h8'
    refine ⟨⟨?_, ?_, ?_⟩, fun y hy => ?_, fun y hy => ?_, ⟨?_, fun y y1 y2 => ?_⟩, fun y hy => ?_⟩
    · rw [o 12 (by omega), ac0W_12 h1 h2]; exact p2
    · rw [o 17 (by omega), ac0W_o h1 h2 (by omega)]; exact p3
    · rw [trcW_18 h8']; exact p1.trans hz
    · rw [o _ (by omega), p6, g1 y hy]
    · rw [o _ (by omega), p7, g2 y hy]
    · rw [p8, g3]; exact a6
    · rw [o _ (by omega), p8, g3, ac0W_o h1 h2 (by omega)]; exact a7 y y1 y2
    · rw [trcW_18 h8'] at hy
      cases y with
      | zero => exact p4.trans trcW_e.2.symm
      | succ y =>
        rw [(trcW_k h8' (by omega)).2, p5 y (by omega), ac0W_o h1 h2 (by omega)]
        exact a8 y (by omega)
  have s6r : sfT (acH h k t x) (k + 4) 0 k 6 = w 18 := (sfT_k (by omega)).trans f6
  refine w_aloadn f6_57 rfl (by omega) ?_
  refine w_getR f6_58 (by assumption) rfl (by omega) ?_
  refine w_iconst (v := 0) f6_61 (by decide) ?_
  refine w_iloadn f6_62 rfl ?_
  refine w_iast f6_63 (by assumption) (by omega) ?_
  refine w_aloadn f6_64 rfl (by omega) ?_
  refine w_getI f6_65 (by decide) (by assumption) (by exact (hput_k (by omega)).trans s6r) ?_
  refine w_bipush (v := 20) f6_68 (by decide) ?_
  refine w_ic_ge (t := 83) f6_70 (by decide) (fun c1 => ?_) (fun c1 => ?_)
  · refine w_ret f6_83 rfl ?_
    first | (refine ⟨_, ⟨(oo.put (by omega) (by omega)).put (by omega) (by omega), fN (w 18 + 1) (by unfold trcN; rw [e18, if_pos (by omega)]) _ hput_s ?_ ?_ ?_ ?_ ?_ ?_ ?_⟩, rfl⟩; all_goals (first | exact (hput_j (by decide)).trans ((hput_k (by omega)).trans ((sfT_k (by omega)).trans f3)) | exact (hput_j (by decide)).trans ((hput_k (by omega)).trans ((sfT_k (by omega)).trans f4)) | exact (hput_k (by omega)).trans hput_s | exact fun y hy => (hput_k (by omega)).trans ((hput_j (by omega)).trans ((if_pos (by omega)).trans (g4 y))) | exact fun y => (hput_k (by omega)).trans ((hput_k (by omega)).trans (sfT_k (by omega)))); done) | (refine ⟨_, ⟨oo.put (by omega) (by omega), fN (w 18) (by unfold trcN; rw [e18, if_neg (by omega)]) _ ?_ ?_ ?_ ?_ ?_ ?_ ?_ ?_⟩, rfl⟩; all_goals (first | exact (hput_k (by omega)).trans s6r | exact (hput_k (by omega)).trans ((sfT_k (by omega)).trans f3) | exact (hput_k (by omega)).trans ((sfT_k (by omega)).trans f4) | exact hput_s | exact fun y hy => (hput_j (by omega)).trans ((if_pos (by omega)).trans (g4 y)) | exact fun y => (hput_k (by omega)).trans (sfT_k (by omega))); done)
  · refine w_aloadn f6_73 rfl (by omega) ?_
    refine w_dup f6_74 rfl ?_
    refine w_getI f6_75 (by decide) (by assumption) (by exact (hput_k (by omega)).trans s6r) ?_
    refine w_iconst (v := 1) f6_78 (by decide) ?_
    refine w_iaddn f6_79 (by omega) ?_
    refine w_putI f6_80 (by assumption) ?_
    refine w_ret f6_83 rfl ?_
    first | (refine ⟨_, ⟨(oo.put (by omega) (by omega)).put (by omega) (by omega), fN (w 18 + 1) (by unfold trcN; rw [e18, if_pos (by omega)]) _ hput_s ?_ ?_ ?_ ?_ ?_ ?_ ?_⟩, rfl⟩; all_goals (first | exact (hput_j (by decide)).trans ((hput_k (by omega)).trans ((sfT_k (by omega)).trans f3)) | exact (hput_j (by decide)).trans ((hput_k (by omega)).trans ((sfT_k (by omega)).trans f4)) | exact (hput_k (by omega)).trans hput_s | exact fun y hy => (hput_k (by omega)).trans ((hput_j (by omega)).trans ((if_pos (by omega)).trans (g4 y))) | exact fun y => (hput_k (by omega)).trans ((hput_k (by omega)).trans (sfT_k (by omega)))); done) | (refine ⟨_, ⟨oo.put (by omega) (by omega), fN (w 18) (by unfold trcN; rw [e18, if_neg (by omega)]) _ ?_ ?_ ?_ ?_ ?_ ?_ ?_ ?_⟩, rfl⟩; all_goals (first | exact (hput_k (by omega)).trans s6r | exact (hput_k (by omega)).trans ((sfT_k (by omega)).trans f3) | exact (hput_k (by omega)).trans ((sfT_k (by omega)).trans f4) | exact hput_s | exact fun y hy => (hput_j (by omega)).trans ((if_pos (by omega)).trans (g4 y)) | exact fun y => (hput_k (by omega)).trans (sfT_k (by omega))); done)
theorem s6 {k : Nat} {nx t x : Int} (e : Int) (hk : ShCv (KS r d) k) (k0 : 0 < k) (hx : x = nx / 1000) (h1 : 0 ≤ nx ∧ nx ≤ 9999) (h2 : 0 ≤ t ∧ t < 24) (h8 : 0 ≤ w 18 ∧ w 18 ≤ 20) (q : RCv h k w) : Rn (ev 6 0 [AR k, AI t, AI x, AU] [] (KS r d, h, R)) (fun o => ∃ h1, (Ot k 5 h h1 ∧ RCv h1 k (trcW (ac0W w nx t) e t)) ∧ o = (.inl AU, (KS r d, h1, R))) := by
  have hk1 := hk
  obtain ⟨k1, k2, k3, k4, k5⟩ := hk
  have z := l6 (h := acH h k t x) hk1 k0 (l6b (R := R) (e := e) hk1 k0 hx rfl h1 h2 h8 q) 19 (by decide)
  rw [sfT_19] at z
  refine w_aloadn f6_0 rfl (by omega) ?_
  refine w_dup f6_1 rfl ?_
  refine w_getI f6_2 (by decide) (by assumption) (by (try simp only [hput, hcopy, Nat.reduceEqDiff, Nat.add_left_cancel_iff, Nat.add_right_cancel_iff, Nat.left_eq_add, Nat.add_eq_left, Nat.right_eq_add, Nat.add_eq_right, Nat.reduceAdd, Nat.add_zero, Nat.succ_ne_self, Nat.one_ne_zero, Nat.zero_ne_one, eq_self, and_self, and_true, true_and, and_false, false_and, if_true, if_false, reduceIte, Int.reduceToNat, Int.toNat_natCast]); exact rfl) ?_
  refine w_iconst (v := 1) f6_5 (by decide) ?_
  refine w_iadd f6_6 ?_
  refine w_putI f6_7 (by assumption) ?_
  refine w_aloadn f6_10 rfl (by omega) ?_
  refine w_getR f6_11 (by assumption) rfl (by omega) ?_
  refine w_iloadn f6_14 rfl ?_
  refine w_dup2 f6_15 rfl ?_
  refine w_iald f6_16 (by assumption) (by omega) (by exact hput_k (by omega)) ?_
  refine w_iconst (v := 1) f6_17 (by decide) ?_
  refine w_iadd f6_18 ?_
  refine w_iast f6_19 (by assumption) (by omega) ?_
  refine w_aloadn f6_20 rfl (by omega) ?_
  refine w_getR f6_21 (by assumption) rfl (by omega) ?_
  refine w_iloadn f6_24 rfl ?_
  refine w_dup2 f6_25 rfl ?_
  refine w_iald f6_26 (by assumption) (by omega) (by exact (hput_k (by omega)).trans (hput_k (by omega))) ?_
  refine w_iconst (v := 1) f6_27 (by decide) ?_
  refine w_iadd f6_28 ?_
  refine w_iast f6_29 (by assumption) (by omega) ?_
  refine w_bipush (v := 19) f6_30 (by decide) ?_
  refine w_istoren f6_32 (Nat.le_of_ble_eq_true rfl) (sto_4_3 rfl) ?_
  exact z
end A

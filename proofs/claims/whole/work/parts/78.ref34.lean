/-! the reference's text -/
section A
variable {K : List AKd} {h : Nat → Nat → Int} {R : R4} {σ : Sg} {r d : Nat} {w : Nat → Int} {b : Nat → Int} {n : Int}
/-- a word behind the text -/
def apW (b : Nat → Int) (n x : Int) : Nat → Int := udI (udI (udI (udI b n.toNat (x / 16777216 % 256)) (n + 1).toNat (x / 65536 % 256)) (n + 2).toNat (x / 256 % 256)) (n + 3).toNat (x % 256)
/-- the text has become this -/
def Tx (h : Nat → Nat → Int) (b : Nat → Int) (n : Int) (h1 : Nat → Nat → Int) : Prop := (h1 275 = b ∧ h1 268 13 = n) ∧ ∀ x y, x ≠ 275 → ¬ (x = 268 ∧ y = 13) → h1 x y = h x y
theorem Tx.put {h0 : Nat → Nat → Int} {v : Int} (q : Tx h0 b n h) (h0' : 0 ≤ n) : Tx h0 (udI b n.toNat v) (n + 1) (hput (hput h 275 n.toNat v) 268 13 (n + 1)) := by
  obtain ⟨⟨a1, a2⟩, a3⟩ := q
  refine ⟨⟨funext fun y => ?_, hput_s⟩, fun x y n1 n2 => (if_neg n2).trans ((if_neg (fun z => n1 z.1)).trans (a3 x y n1 n2))⟩
  refine (hput_k (by decide)).trans ?_
  unfold udI hput
  rw [a1]
  by_cases e : y = n.toNat
  · rw [if_pos e, if_pos ⟨rfl, e⟩]
  · rw [if_neg e, if_neg (fun z => e z.2)]
theorem Tx.ap {h0 : Nat → Nat → Int} {x : Int} (q : Tx h0 b n h) (hn : 0 ≤ n) : Tx h0 (apW b n x) (n + 4) (hput (hput (hput (hput (hput (hput (hput (hput h 275 n.toNat (x / 2 ^ Int.toNat 24 % 256)) 268 13 (n + 1)) 275 (n + 1).toNat (x / 2 ^ Int.toNat 16 % 256)) 268 13 (n + 1 + 1)) 275 (n + 1 + 1).toNat (x / 2 ^ Int.toNat 8 % 256)) 268 13 (n + 1 + 1 + 1)) 275 (n + 1 + 1 + 1).toNat (x / 2 ^ Int.toNat 0 % 256)) 268 13 (n + 1 + 1 + 1 + 1)) := by
  have z := (((q.put (v := x / 2 ^ Int.toNat 24 % 256) hn).put (v := x / 2 ^ Int.toNat 16 % 256) (by omega)).put (v := x / 2 ^ Int.toNat 8 % 256) (by omega)).put (v := x / 2 ^ Int.toNat 0 % 256) (by omega)
  have e : udI (udI (udI (udI b n.toNat (x / 2 ^ Int.toNat 24 % 256)) (n + 1).toNat (x / 2 ^ Int.toNat 16 % 256)) (n + 1 + 1).toNat (x / 2 ^ Int.toNat 8 % 256)) (n + 1 + 1 + 1).toNat (x / 2 ^ Int.toNat 0 % 256) = apW b n x := by
    unfold apW
    rw [show (2 : Int) ^ Int.toNat 24 = 16777216 from rfl, show (2 : Int) ^ Int.toNat 16 = 65536 from rfl, show (2 : Int) ^ Int.toNat 8 = 256 from rfl, show (2 : Int) ^ Int.toNat 0 = 1 from rfl, Int.ediv_one, show n + 1 + 1 = n + 2 by omega, show n + 2 + 1 = n + 3 by omega]
  rw [e] at z
  rw [show n + 4 = n + 1 + 1 + 1 + 1 by omega]
  exact z
theorem s187 {h0 : Nat → Nat → Int} {x : Int} (q : Tx h0 b n h) (hn : 0 ≤ n ∧ n ≤ 696) : Rn (ev 187 0 [AR 268, AI x, AU] [] (KS r d, h, R)) (fun o => ∃ h1, Tx h0 (apW b n x) (n + 4) h1 ∧ o = (.inl AU, (KS r d, h1, R))) := by
  have k0 := @kd_268 r d
  have k1 := @kd_275 r d
  have hc := q.1.2
  refine w_bipush (v := 24) f187_0 (by decide) ?_
  refine w_istoren f187_2 (Nat.le_of_ble_eq_true rfl) (sto_3_2 rfl) ?_
  refine w_iloadn f187_3 rfl ?_
  refine w_if_lt (t := 39) f187_4 (by decide) (fun e9 => absurd e9 (by decide)) (fun _ => ?_)
  refine w_aloadn f187_7 rfl (by omega) ?_
  refine w_getR f187_8 (by assumption) rfl (by omega) ?_
  refine w_aloadn f187_11 rfl (by omega) ?_
  refine w_getI f187_12 (by decide) (by assumption) (by (try simp only [hput, hcopy, Nat.reduceEqDiff, Nat.add_left_cancel_iff, Nat.add_right_cancel_iff, Nat.left_eq_add, Nat.add_eq_left, Nat.right_eq_add, Nat.add_eq_right, Nat.reduceAdd, Nat.add_zero, Nat.succ_ne_self, Nat.one_ne_zero, Nat.zero_ne_one, eq_self, and_self, and_true, true_and, and_false, false_and, if_true, if_false, reduceIte, Int.reduceToNat, Int.toNat_natCast, hc]); exact rfl) ?_
  refine w_iloadn f187_15 rfl ?_
  refine w_iloadn f187_16 rfl ?_
  refine w_ishr f187_17 (by decide) ?_
  refine w_sipush (v := 255) f187_18 (by decide) ?_
  refine w_iand255 f187_21 ?_
  refine w_iast f187_22 (by assumption) (by omega) ?_
  refine w_aloadn f187_23 rfl (by omega) ?_
  refine w_dup f187_24 rfl ?_
  refine w_getI f187_25 (by decide) (by assumption) (by (try simp only [hput, hcopy, Nat.reduceEqDiff, Nat.add_left_cancel_iff, Nat.add_right_cancel_iff, Nat.left_eq_add, Nat.add_eq_left, Nat.right_eq_add, Nat.add_eq_right, Nat.reduceAdd, Nat.add_zero, Nat.succ_ne_self, Nat.one_ne_zero, Nat.zero_ne_one, eq_self, and_self, and_true, true_and, and_false, false_and, if_true, if_false, reduceIte, Int.reduceToNat, Int.toNat_natCast, hc]); exact rfl) ?_
  refine w_iconst (v := 1) f187_28 (by decide) ?_
  refine w_iaddn f187_29 (by omega) ?_
  refine w_putI f187_30 (by assumption) ?_
  refine w_iincc (v := 16) f187_33 rfl (by decide) (sto_3_2 rfl) ?_
  refine w_goto (t := 3) f187_36 (by decide) ?_
  refine w_iloadn f187_3 rfl ?_
  refine w_if_lt (t := 39) f187_4 (by decide) (fun e9 => absurd e9 (by decide)) (fun _ => ?_)
  refine w_aloadn f187_7 rfl (by omega) ?_
  refine w_getR f187_8 (by assumption) rfl (by omega) ?_
  refine w_aloadn f187_11 rfl (by omega) ?_
  refine w_getI f187_12 (by decide) (by assumption) (by (try simp only [hput, hcopy, Nat.reduceEqDiff, Nat.add_left_cancel_iff, Nat.add_right_cancel_iff, Nat.left_eq_add, Nat.add_eq_left, Nat.right_eq_add, Nat.add_eq_right, Nat.reduceAdd, Nat.add_zero, Nat.succ_ne_self, Nat.one_ne_zero, Nat.zero_ne_one, eq_self, and_self, and_true, true_and, and_false, false_and, if_true, if_false, reduceIte, Int.reduceToNat, Int.toNat_natCast, hc]); exact rfl) ?_
  refine w_iloadn f187_15 rfl ?_
  refine w_iloadn f187_16 rfl ?_
  refine w_ishr f187_17 (by decide) ?_
  refine w_sipush (v := 255) f187_18 (by decide) ?_
  refine w_iand255 f187_21 ?_
  refine w_iast f187_22 (by assumption) (by omega) ?_
  refine w_aloadn f187_23 rfl (by omega) ?_
  refine w_dup f187_24 rfl ?_
  refine w_getI f187_25 (by decide) (by assumption) (by (try simp only [hput, hcopy, Nat.reduceEqDiff, Nat.add_left_cancel_iff, Nat.add_right_cancel_iff, Nat.left_eq_add, Nat.add_eq_left, Nat.right_eq_add, Nat.add_eq_right, Nat.reduceAdd, Nat.add_zero, Nat.succ_ne_self, Nat.one_ne_zero, Nat.zero_ne_one, eq_self, and_self, and_true, true_and, and_false, false_and, if_true, if_false, reduceIte, Int.reduceToNat, Int.toNat_natCast, hc]); exact rfl) ?_
  refine w_iconst (v := 1) f187_28 (by decide) ?_
  refine w_iaddn f187_29 (by omega) ?_
  refine w_putI f187_30 (by assumption) ?_
  refine w_iincc (v := 8) f187_33 rfl (by decide) (sto_3_2 rfl) ?_
  refine w_goto (t := 3) f187_36 (by decide) ?_
  refine w_iloadn f187_3 rfl ?_
  refine w_if_lt (t := 39) f187_4 (by decide) (fun e9 => absurd e9 (by decide)) (fun _ => ?_)
  refine w_aloadn f187_7 rfl (by omega) ?_
  refine w_getR f187_8 (by assumption) rfl (by omega) ?_
  refine w_aloadn f187_11 rfl (by omega) ?_
  refine w_getI f187_12 (by decide) (by assumption) (by (try simp only [hput, hcopy, Nat.reduceEqDiff, Nat.add_left_cancel_iff, Nat.add_right_cancel_iff, Nat.left_eq_add, Nat.add_eq_left, Nat.right_eq_add, Nat.add_eq_right, Nat.reduceAdd, Nat.add_zero, Nat.succ_ne_self, Nat.one_ne_zero, Nat.zero_ne_one, eq_self, and_self, and_true, true_and, and_false, false_and, if_true, if_false, reduceIte, Int.reduceToNat, Int.toNat_natCast, hc]); exact rfl) ?_
  refine w_iloadn f187_15 rfl ?_
  refine w_iloadn f187_16 rfl ?_
  refine w_ishr f187_17 (by decide) ?_
  refine w_sipush (v := 255) f187_18 (by decide) ?_
  refine w_iand255 f187_21 ?_
  refine w_iast f187_22 (by assumption) (by omega) ?_
  refine w_aloadn f187_23 rfl (by omega) ?_
  refine w_dup f187_24 rfl ?_
  refine w_getI f187_25 (by decide) (by assumption) (by (try simp only [hput, hcopy, Nat.reduceEqDiff, Nat.add_left_cancel_iff, Nat.add_right_cancel_iff, Nat.left_eq_add, Nat.add_eq_left, Nat.right_eq_add, Nat.add_eq_right, Nat.reduceAdd, Nat.add_zero, Nat.succ_ne_self, Nat.one_ne_zero, Nat.zero_ne_one, eq_self, and_self, and_true, true_and, and_false, false_and, if_true, if_false, reduceIte, Int.reduceToNat, Int.toNat_natCast, hc]); exact rfl) ?_
  refine w_iconst (v := 1) f187_28 (by decide) ?_
  refine w_iaddn f187_29 (by omega) ?_
  refine w_putI f187_30 (by assumption) ?_
  refine w_iincc (v := 0) f187_33 rfl (by decide) (sto_3_2 rfl) ?_
  refine w_goto (t := 3) f187_36 (by decide) ?_
  refine w_iloadn f187_3 rfl ?_
  refine w_if_lt (t := 39) f187_4 (by decide) (fun e9 => absurd e9 (by decide)) (fun _ => ?_)
  refine w_aloadn f187_7 rfl (by omega) ?_
  refine w_getR f187_8 (by assumption) rfl (by omega) ?_
  refine w_aloadn f187_11 rfl (by omega) ?_
  refine w_getI f187_12 (by decide) (by assumption) (by (try simp only [hput, hcopy, Nat.reduceEqDiff, Nat.add_left_cancel_iff, Nat.add_right_cancel_iff, Nat.left_eq_add, Nat.add_eq_left, Nat.right_eq_add, Nat.add_eq_right, Nat.reduceAdd, Nat.add_zero, Nat.succ_ne_self, Nat.one_ne_zero, Nat.zero_ne_one, eq_self, and_self, and_true, true_and, and_false, false_and, if_true, if_false, reduceIte, Int.reduceToNat, Int.toNat_natCast, hc]); exact rfl) ?_
  refine w_iloadn f187_15 rfl ?_
  refine w_iloadn f187_16 rfl ?_
  refine w_ishr f187_17 (by decide) ?_
  refine w_sipush (v := 255) f187_18 (by decide) ?_
  refine w_iand255 f187_21 ?_
  refine w_iast f187_22 (by assumption) (by omega) ?_
  refine w_aloadn f187_23 rfl (by omega) ?_
  refine w_dup f187_24 rfl ?_
  refine w_getI f187_25 (by decide) (by assumption) (by (try simp only [hput, hcopy, Nat.reduceEqDiff, Nat.add_left_cancel_iff, Nat.add_right_cancel_iff, Nat.left_eq_add, Nat.add_eq_left, Nat.right_eq_add, Nat.add_eq_right, Nat.reduceAdd, Nat.add_zero, Nat.succ_ne_self, Nat.one_ne_zero, Nat.zero_ne_one, eq_self, and_self, and_true, true_and, and_false, false_and, if_true, if_false, reduceIte, Int.reduceToNat, Int.toNat_natCast, hc]); exact rfl) ?_
  refine w_iconst (v := 1) f187_28 (by decide) ?_
  refine w_iaddn f187_29 (by omega) ?_
  refine w_putI f187_30 (by assumption) ?_
  refine w_iincc (v := -8) f187_33 rfl (by decide) (sto_3_2 rfl) ?_
  refine w_goto (t := 3) f187_36 (by decide) ?_
  refine w_iloadn f187_3 rfl ?_
  refine w_if_lt (t := 39) f187_4 (by decide) (fun _ => ?_) (fun e9 => absurd e9 (by decide))
  refine w_ret f187_39 rfl ?_
  exact ⟨_, q.ap hn.1, rfl⟩
/-- a step of the log behind the text -/
def apI (b : Nat → Int) (n x1 x2 x3 x4 x5 : Int) : Nat → Int := apW (apW (apW (apW (apW b n x1) (n + 4) x2) (n + 8) x3) (n + 12) x4) (n + 16) x5
theorem s188 {x1 x2 x3 x4 x5 : Int} (hb : h 275 = b) (hc : h 268 13 = n) (hn : 0 ≤ n ∧ n ≤ 700) : Rn (ev 188 0 [AR 268, AI x1, AI x2, AI x3, AI x4, AI x5] [] (KS r d, h, R)) (fun o => (n + 20 ≤ 700 ∧ ∃ h1, Tx (hput h 268 6 0) (apI b n x1 x2 x3 x4 x5) (n + 20) h1 ∧ o = (.inl (AI (n + 20)), (KS r d, h1, R))) ∨ (700 < n + 20 ∧ o = (.inl (AI (-1)), (KS r d, hput h 268 6 0, R)))) := by
  have k0 := @kd_268 r d
  have q : Tx (hput h 268 6 0) b n (hput h 268 6 0) := ⟨⟨hput_w hb (by decide), (hput_j (by decide)).trans hc⟩, fun _ _ _ _ => rfl⟩
  refine w_aloadn f188_0 rfl (by omega) ?_
  refine w_iconst (v := 0) f188_1 (by decide) ?_
  refine w_putI f188_2 (by assumption) ?_
  refine w_aloadn f188_5 rfl (by omega) ?_
  refine w_getI f188_6 (by decide) (by assumption) (by (try simp only [hput, hcopy, Nat.reduceEqDiff, Nat.add_left_cancel_iff, Nat.add_right_cancel_iff, Nat.left_eq_add, Nat.add_eq_left, Nat.right_eq_add, Nat.add_eq_right, Nat.reduceAdd, Nat.add_zero, Nat.succ_ne_self, Nat.one_ne_zero, Nat.zero_ne_one, eq_self, and_self, and_true, true_and, and_false, false_and, if_true, if_false, reduceIte, Int.reduceToNat, Int.toNat_natCast, hc]); exact rfl) ?_
  refine w_bipush (v := 20) f188_9 (by decide) ?_
  refine w_iaddn f188_11 (by omega) ?_
  refine w_sipush (v := 700) f188_12 (by decide) ?_
  refine w_ic_le (t := 20) f188_15 (by decide) (fun c1 => ?_) (fun c1 => ?_)
  · refine w_aloadn f188_20 rfl (by omega) ?_
    refine w_iloadn f188_21 rfl ?_
    refine w_qV f188_22 (Or.inl rfl) rfl (by omega) (okd_of (by assumption)) rfl ⟨Nat.le_of_ble_eq_true rfl, rfl, Nat.le_of_ble_eq_true rfl⟩ (en187 _ _) (s187 q (by omega)) (fun o9 ho9 => ?_)
    obtain ⟨h1, q1, rfl⟩ := ho9
    refine w_bok (pv187 _ _) ?_
    refine w_aloadn f188_25 rfl (by omega) ?_
    refine w_iloadn f188_26 rfl ?_
    refine w_qV f188_27 (Or.inl rfl) rfl (by omega) (okd_of (by assumption)) rfl ⟨Nat.le_of_ble_eq_true rfl, rfl, Nat.le_of_ble_eq_true rfl⟩ (en187 _ _) (s187 q1 (by omega)) (fun o9 ho9 => ?_)
    obtain ⟨h2, q2, rfl⟩ := ho9
    refine w_bok (pv187 _ _) ?_
    refine w_aloadn f188_30 rfl (by omega) ?_
    refine w_iloadn f188_31 rfl ?_
    refine w_qV f188_32 (Or.inl rfl) rfl (by omega) (okd_of (by assumption)) rfl ⟨Nat.le_of_ble_eq_true rfl, rfl, Nat.le_of_ble_eq_true rfl⟩ (en187 _ _) (s187 q2 (by omega)) (fun o9 ho9 => ?_)
    obtain ⟨h3, q3, rfl⟩ := ho9
    refine w_bok (pv187 _ _) ?_
    refine w_aloadn f188_35 rfl (by omega) ?_
    refine w_iload f188_36 rfl ?_
    refine w_qV f188_38 (Or.inl rfl) rfl (by omega) (okd_of (by assumption)) rfl ⟨Nat.le_of_ble_eq_true rfl, rfl, Nat.le_of_ble_eq_true rfl⟩ (en187 _ _) (s187 q3 (by omega)) (fun o9 ho9 => ?_)
    obtain ⟨h4, q4, rfl⟩ := ho9
    refine w_bok (pv187 _ _) ?_
    refine w_aloadn f188_41 rfl (by omega) ?_
    refine w_iload f188_42 rfl ?_
    refine w_qV f188_44 (Or.inl rfl) rfl (by omega) (okd_of (by assumption)) rfl ⟨Nat.le_of_ble_eq_true rfl, rfl, Nat.le_of_ble_eq_true rfl⟩ (en187 _ _) (s187 q4 (by omega)) (fun o9 ho9 => ?_)
    obtain ⟨h5, q5, rfl⟩ := ho9
    rw [show n + 4 + 4 + 4 + 4 + 4 = n + 20 by omega, show n + 4 + 4 = n + 8 by omega, show n + 8 + 4 = n + 12 by omega, show n + 12 + 4 = n + 16 by omega] at q5
    have hc5 := q5.1.2
    refine w_bok (pv187 _ _) ?_
    refine w_aloadn f188_47 rfl (by omega) ?_
    refine w_getI f188_48 (by decide) (by assumption) (by exact hc5) ?_
    refine w_iret f188_51 rfl ?_
    first | exact Or.inl ⟨by omega, _, q5, rfl⟩ | exact Or.inr ⟨by omega, rfl⟩
  · refine w_iconst (v := -1) f188_18 (by decide) ?_
    refine w_iret f188_19 rfl ?_
    first | exact Or.inl ⟨by omega, _, q5, rfl⟩ | exact Or.inr ⟨by omega, rfl⟩
theorem s189 {x : Int} (hc : h 268 13 = n) (hn : 0 ≤ n ∧ n ≤ 700) : Rn (ev 189 0 [AR 268, AI x] [] (KS r d, h, R)) (fun o => (0 ≤ x ∧ x ≤ n ∧ o = (.inl (AI 1), (KS r d, hput (hput h 268 6 0) 268 13 x, R))) ∨ (¬ (0 ≤ x ∧ x ≤ n) ∧ o = (.inl (AI 0), (KS r d, hput h 268 6 0, R)))) := by
  have k0 := @kd_268 r d
  refine w_aloadn f189_0 rfl (by omega) ?_
  refine w_iconst (v := 0) f189_1 (by decide) ?_
  refine w_putI f189_2 (by assumption) ?_
  refine w_iloadn f189_5 rfl ?_
  refine w_iconst (v := 0) f189_6 (by decide) ?_
  refine w_aloadn f189_7 rfl (by omega) ?_
  refine w_getI f189_8 (by decide) (by assumption) (by (try simp only [hput, hcopy, Nat.reduceEqDiff, Nat.add_left_cancel_iff, Nat.add_right_cancel_iff, Nat.left_eq_add, Nat.add_eq_left, Nat.right_eq_add, Nat.add_eq_right, Nat.reduceAdd, Nat.add_zero, Nat.succ_ne_self, Nat.one_ne_zero, Nat.zero_ne_one, eq_self, and_self, and_true, true_and, and_false, false_and, if_true, if_false, reduceIte, Int.reduceToNat, Int.toNat_natCast, hc]); exact rfl) ?_
  refine w_cS f189_11 (Or.inl rfl) (Nat.le_of_ble_eq_true rfl) rfl rfl ⟨Nat.le_of_ble_eq_true rfl, rfl, Nat.le_of_ble_eq_true rfl⟩ (en148 _ _ _) (s148) (pv148 _ _) ?_
  refine w_ifb_ne (t := 19) f189_14 (by decide) (fun c1 => ?_) (fun c1 => ?_)
  · refine w_aloadn f189_19 rfl (by omega) ?_
    refine w_iloadn f189_20 rfl ?_
    refine w_putI f189_21 (by assumption) ?_
    refine w_iconst (v := 1) f189_24 (by decide) ?_
    refine w_zret f189_25 rfl (by decide) ?_
    first | exact Or.inl ⟨by omega, by omega, rfl⟩ | exact Or.inr ⟨by omega, rfl⟩
  · refine w_iconst (v := 0) f189_17 (by decide) ?_
    refine w_zret f189_18 rfl (by decide) ?_
    first | exact Or.inl ⟨by omega, by omega, rfl⟩ | exact Or.inr ⟨by omega, rfl⟩
end A

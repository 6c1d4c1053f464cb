/-! the search in breadth, the reference's: whole -/
section A
variable {K : List AKd} {h : Nat → Nat → Int} {R : R4} {σ : Sg} {r d : Nat} {w : Nat → Int}
theorem cnt_0 : ∀ m, cnt (fun _ => -1) m = 0
  | 0 => rfl
  | m + 1 => by
    show cnt (fun _ => -1) m + (if (-1 : Int) = -1 then 0 else 1) = 0
    rw [cnt_0 m]
    rfl
theorem BI_0 : BI S0 := ⟨⟨Int.le_refl _, by show (0 : Int) = ((cnt (fun _ => -1) 10000 : Nat) : Int); rw [cnt_0]; rfl⟩, fun y _ => ⟨Int.le_refl _, Or.inl rfl⟩, fun i hi => absurd (show (i : Int) < 0 from hi) (by omega)⟩
theorem ex_ok {at_ : Int} (hf : WFt w) (h1 : 0 ≤ at_ ∧ at_ ≤ 9999) {S : BS} (hB : BI S) (hs : S.1 at_.toNat ≠ -1) : BI (ex w at_ S) ∧ Ge S (ex w at_ S) := exG_ok hf h1 _ _ _ hB hs
theorem srG_ok (hf : WFt w) : ∀ (n : Nat) (k : Int) (S : BS), 0 ≤ k → BI S → BI (srG w n k S) ∧ Ge S (srG w n k S) := by
  intro n
  induction n with
  | zero => intro k S _ hB; exact ⟨hB, Ge.rf⟩
  | succ n ih =>
    intro k S hk hB
    unfold srG
    split
    · have h3 := hB.2.2 k.toNat (by omega)
      obtain ⟨a1, a2⟩ := ex_ok hf ⟨h3.1, h3.2.1⟩ hB h3.2.2
      obtain ⟨b1, b2⟩ := ih (k + 1) _ (by omega) a1
      exact ⟨b1, a2.tr b2⟩
    · exact ⟨hB, Ge.rf⟩
theorem bfs_ok (hf : WFt w) {c : Int} (h1 : 0 ≤ c ∧ c ≤ 9999) : BI (bfs w c) ∧ Ge (rc S0 c 0) (bfs w c) := srG_ok hf _ _ _ (Int.le_refl _) (BI_0.go h1 (by decide))
theorem l178n {c k x y : Int} {Q : Out → Prop} (hk : 0 ≤ k ∧ k ≤ 10000) (g : Rn (ev 178 35 [AR 268, AI c, AI (k + 1), AI x, AI y] [] σ) Q) : Rn (ev 178 96 [AR 268, AI c, AI k, AI x, AI y] [] σ) Q := by
  refine w_iincn f178_96 rfl (by omega) (sto_5_2 rfl) ?_
  refine w_goto (t := 35) f178_99 (by decide) ?_
  exact g
theorem l178o (hw : h 269 = w) (hE : 0 ≤ w 1 ∧ w 1 ≤ 8) (hf : WFt w) {c : Int} : ∀ (n : Nat) (k a b : Int) (S : BS) (v4 v5 : AV), cat1 v4 = true → cat1 v5 = true → 0 ≤ k → k + n = 10001 → BI S →
    Rn (ev 178 35 [AR 268, AI c, AI k, v4, v5] [] (KS r d, bH h S a b, R)) (fun o => ∃ a1 b1, o = (.inl AU, (KS r d, bH h (srG w n k S) a1 b1, R))) := by
  intro n
  have k0 := @kd_268 r d
  have k1 := @kd_269 r d
  have k2 := @kd_274 r d
  induction n with
  | zero =>
    intro k a b S v4 v5 q4 q5 h2 h3 hB
    have hn := hB.n
    have e2 : ∀ a b, bH h S a b 268 11 = S.2.2 := fun a b => rfl
    refine w_iloadn f178_35 rfl ?_
    refine w_aloadn f178_36 rfl (by omega) ?_
    refine w_getI f178_37 (by decide) (by assumption) (by (try simp only [hput, hcopy, Nat.reduceEqDiff, Nat.add_left_cancel_iff, Nat.add_right_cancel_iff, Nat.left_eq_add, Nat.add_eq_left, Nat.right_eq_add, Nat.add_eq_right, Nat.reduceAdd, Nat.add_zero, Nat.succ_ne_self, Nat.one_ne_zero, Nat.zero_ne_one, eq_self, and_self, and_true, true_and, and_false, false_and, if_true, if_false, reduceIte, Int.reduceToNat, Int.toNat_natCast, e2]); exact rfl) ?_
    refine w_ic_ge (t := 102) f178_40 (by decide) (fun c1 => ?_) (fun c1 => by omega)
    refine w_ret f178_102 rfl ?_
    exact ⟨a, b, rfl⟩
  | succ n ih =>
    intro k a b S v4 v5 q4 q5 h2 h3 hB
    have hn := hB.n
    have e2 : ∀ a b, bH h S a b 268 11 = S.2.2 := fun a b => rfl
    refine w_iloadn f178_35 rfl ?_
    refine w_aloadn f178_36 rfl (by omega) ?_
    refine w_getI f178_37 (by decide) (by assumption) (by (try simp only [hput, hcopy, Nat.reduceEqDiff, Nat.add_left_cancel_iff, Nat.add_right_cancel_iff, Nat.left_eq_add, Nat.add_eq_left, Nat.right_eq_add, Nat.add_eq_right, Nat.reduceAdd, Nat.add_zero, Nat.succ_ne_self, Nat.one_ne_zero, Nat.zero_ne_one, eq_self, and_self, and_true, true_and, and_false, false_and, if_true, if_false, reduceIte, Int.reduceToNat, Int.toNat_natCast, e2]); exact rfl) ?_
    refine w_ic_ge (t := 102) f178_40 (by decide) (fun c1 => ?_) (fun c1 => ?_)
    · refine w_ret f178_102 rfl ?_
      exact ⟨a, b, by simp only [srG, if_neg (Int.not_lt.mpr c1)]⟩
    · have e3 : bH h S a b 274 k.toNat = S.2.1 k.toNat := bH_ln (by omega)
      have h9 := hB.2.2 k.toNat (by omega)
      refine w_aloadn f178_43 rfl (by omega) ?_
      refine w_getR f178_44 (by assumption) rfl (by omega) ?_
      refine w_iloadn f178_47 rfl ?_
      refine w_iald f178_48 (by assumption) (by omega) (by (try simp only [e3]); exact rfl) ?_
      refine w_istoren f178_49 (Nat.le_of_ble_eq_true rfl) (sto_5_3 rfl) ?_
      refine w_iconst (v := 0) f178_50 (by decide) ?_
      refine w_istore f178_51 (Nat.le_of_ble_eq_true rfl) (sto_5_4 rfl) ?_
      refine l178e hw hE.2 hf ⟨h9.1, h9.2.1⟩ (w 1).toNat 0 a b S (by omega) (by omega) hB h9.2.2 (fun a1 b1 => ?_)
      refine l178n (by omega) ?_
      have e9 : srG w (n + 1) k S = srG w n (k + 1) (ex w (S.2.1 k.toNat) S) := by simp only [srG, if_pos c1]
      rw [e9]
      exact ih (k + 1) a1 b1 _ _ _ rfl rfl (by omega) (by omega) (ex_ok hf ⟨h9.1, h9.2.1⟩ hB h9.2.2).1
def flH (h : Nat → Nat → Int) (k : Int) : Nat → Nat → Int := fun x y => if x = 273 ∧ (y : Int) < k then -1 else h x y
theorem l178f {c : Int} {Q : Out → Prop} : ∀ (n : Nat) (k : Int), 0 ≤ k → k + n = 10000 → Rn (ev 178 22 [AR 268, AI c, AI 10000, AU, AU] [] (KS r d, flH h 10000, R)) Q → Rn (ev 178 2 [AR 268, AI c, AI k, AU, AU] [] (KS r d, flH h k, R)) Q := by
  intro n
  have k0 := @kd_268 r d
  have k2 := @kd_273 r d
  induction n with
  | zero =>
    intro k h1 h2 g
    rw [show k = 10000 by omega]
    refine w_iloadn f178_2 rfl ?_
    refine w_sipush (v := 10000) f178_3 (by decide) ?_
    refine w_ic_ge (t := 22) f178_6 (by decide) (fun c1 => ?_) (fun c1 => by omega)
    exact g
  | succ n ih =>
    intro k h1 h2 g
    have e : hput (flH h k) 273 k.toNat (-1) = flH h (k + 1) := by
      refine funext fun x => funext fun y => ?_
      unfold hput flH
      by_cases e1 : x = 273
      · subst e1
        by_cases e2 : (y : Int) < k
        · rw [if_neg (by omega), if_pos ⟨rfl, e2⟩, if_pos ⟨rfl, by omega⟩]
        · by_cases e3 : y = k.toNat
          · rw [if_pos ⟨rfl, e3⟩, if_pos ⟨rfl, by omega⟩]
          · rw [if_neg (by omega), if_neg (by omega), if_neg (by omega)]
      · rw [if_neg (by omega), if_neg (by omega), if_neg (by omega)]
    refine w_iloadn f178_2 rfl ?_
    refine w_sipush (v := 10000) f178_3 (by decide) ?_
    refine w_ic_ge (t := 22) f178_6 (by decide) (fun c1 => by omega) (fun c1 => ?_)
    refine w_aloadn f178_9 rfl (by omega) ?_
    refine w_getR f178_10 (by assumption) rfl (by omega) ?_
    refine w_iloadn f178_13 rfl ?_
    refine w_iconst (v := -1) f178_14 (by decide) ?_
    refine w_iast f178_15 (by assumption) (by omega) ?_
    refine w_iincn f178_16 rfl (by omega) (sto_5_2 rfl) ?_
    refine w_goto (t := 2) f178_19 (by decide) ?_
    rw [e]
    exact ih _ (by omega) (by omega) g
theorem l178m (hw : h 269 = w) (hE : 0 ≤ w 1 ∧ w 1 ≤ 8) (hf : WFt w) {c : Int} (h1 : 0 ≤ c ∧ c ≤ 9999) (e1 : hput (flH h 10000) 268 11 0 = bH h S0 (h 268 7) (h 268 8)) : Rn (ev 178 22 [AR 268, AI c, AI 10000, AU, AU] [] (KS r d, flH h 10000, R)) (fun o => ∃ a1 b1, o = (.inl AU, (KS r d, bH h (bfs w c) a1 b1, R))) := by
  have k0 := @kd_268 r d
  refine w_aloadn f178_22 rfl (by omega) ?_
  refine w_iconst (v := 0) f178_23 (by decide) ?_
  refine w_putI f178_24 (by assumption) ?_
  rw [e1]
  refine w_aloadn f178_27 rfl (by omega) ?_
  refine w_iloadn f178_28 rfl ?_
  refine w_iconst (v := 0) f178_29 (by decide) ?_
  refine w_cV f178_30 (Or.inl rfl) rfl (by omega) (okd_of (by assumption)) rfl ⟨Nat.le_of_ble_eq_true rfl, rfl, Nat.le_of_ble_eq_true rfl⟩ (en177 _ _ _) (s177 BI_0 h1) (pv177 _ _) ?_
  refine w_iconst (v := 0) f178_33 (by decide) ?_
  refine w_istoren f178_34 (Nat.le_of_ble_eq_true rfl) (sto_5_2 rfl) ?_
  exact l178o hw hE hf 10001 0 _ _ _ _ _ rfl rfl (by omega) (by omega) (BI_0.go h1 (by decide))
theorem s178 (hw : h 269 = w) (hE : 0 ≤ w 1 ∧ w 1 ≤ 8) (hf : WFt w) {c : Int} (h1 : 0 ≤ c ∧ c ≤ 9999) : Rn (ev 178 0 [AR 268, AI c, AU, AU, AU] [] (KS r d, h, R)) (fun o => ∃ a1 b1, o = (.inl AU, (KS r d, bH h (bfs w c) a1 b1, R))) := by
  have k0 := @kd_268 r d
  have e0 : h = flH h 0 := by
    refine funext fun x => funext fun y => ?_
    unfold flH
    rw [if_neg (by omega)]
  have e1 : hput (flH h 10000) 268 11 0 = bH h S0 (h 268 7) (h 268 8) := by
    refine funext fun x => funext fun y => ?_
    unfold hput flH bH S0
    by_cases q1 : x = 273
    · subst q1
      by_cases q2 : y < 10000
      · have : (y : Int) < 10000 := by omega
        simp [q2, this]
      · have : ¬ (y : Int) < 10000 := by omega
        simp [q2, this]
    · by_cases q2 : x = 274
      · subst q2; simp
      · by_cases q3 : x = 268
        · subst q3
          by_cases q4 : y = 11
          · simp [q4]
          · by_cases q5 : y = 7
            · subst q5; simp
            · by_cases q6 : y = 8
              · subst q6; simp
              · simp [q4, q5, q6]
        · simp [q1, q2, q3]
  refine w_iconst (v := 0) f178_0 (by decide) ?_
  refine w_istoren f178_1 (Nat.le_of_ble_eq_true rfl) (sto_5_2 rfl) ?_
  rw [e0]
  refine l178f 10000 0 (by omega) (by omega) ?_
  rw [← e0]
  exact l178m hw hE hf h1 e1
end A

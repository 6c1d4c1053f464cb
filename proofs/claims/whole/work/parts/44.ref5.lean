/-! the reference's searches -/
section A
variable {K : List AKd} {h : Nat → Nat → Int} {R : R4} {σ : Sg} {r d : Nat} {w : Nat → Int}
/-- no event is accepted -/
def stk (w : Nat → Int) (c : Int) : Prop := ∀ e, 0 ≤ e → e < w 1 → (vdt w c e).1 ≠ 0
/-- the reference's scratch cells: chosen, next, lined, steps, line, seen, stack -/
def scr (x y : Nat) : Prop := x = 273 ∨ x = 274 ∨ x = 279 ∨ x = 280 ∨ (x = 268 ∧ (y = 7 ∨ y = 8 ∨ y = 11))
def Scr (h h1 : Nat → Nat → Int) : Prop := ∀ x y, ¬ scr x y → h1 x y = h x y
theorem Scr.rf : Scr h h := fun _ _ _ => rfl
theorem Scr.tr {h1 h2 : Nat → Nat → Int} (a : Scr h h1) (b : Scr h1 h2) : Scr h h2 := fun x y z => (b x y z).trans (a x y z)
theorem Scr.hw {h1 : Nat → Nat → Int} (a : Scr h h1) (hw : h 269 = w) : h1 269 = w := by
  subst hw
  exact funext fun y => a 269 y (by unfold scr; omega)
theorem Scr.row {h1 : Nat → Nat → Int} {k : Nat} (a : Scr h h1) (hk : k ≠ 268 ∧ k ≠ 273 ∧ k ≠ 274 ∧ k ≠ 279 ∧ k ≠ 280) : h1 k = h k := funext fun y => a k y (by unfold scr; omega)
theorem setv_S {a b : Int} : Scr h (setv h a b) := fun x y z => by
  unfold scr at z
  unfold setv hput
  rw [if_neg (by omega), if_neg (by omega)]
theorem l176 {c : Int} (hw : h 269 = w) (hE : w 1 ≤ 8) (hf : WFt w) (h1 : 0 ≤ c ∧ c ≤ 9999) : ∀ (n : Nat) (e a b : Int), 0 ≤ e → e + n = w 1 → (∀ e1, 0 ≤ e1 → e1 < e → (vdt w c e1).1 ≠ 0) → Rn (ev 176 2 [AR 268, AI c, AI e] [] (KS r d, setv h a b, R)) (fun o => ∃ a1 b1, o = (.inl (AI (b2i (stk w c))), (KS r d, setv h a1 b1, R))) := by
  intro n
  have k0 := @kd_268 r d
  have k1 := @kd_269 r d
  induction n with
  | zero =>
    intro e a b h2 h3 h4
    have hw9 : setv h a b 269 = w := (by repeat (first | exact hw | refine setv_w ?_ (by decide) | refine hput_w ?_ (by decide)))
    refine w_iloadn f176_2 rfl ?_
    refine w_aloadn f176_3 rfl (by omega) ?_
    refine w_getR f176_4 (by assumption) rfl (by omega) ?_
    refine w_iconst (v := 1) f176_7 (by decide) ?_
    refine w_iald f176_8 (by assumption) (by omega) (by (try simp only [hput, hcopy, Nat.reduceEqDiff, Nat.add_left_cancel_iff, Nat.add_right_cancel_iff, Nat.left_eq_add, Nat.add_eq_left, Nat.right_eq_add, Nat.add_eq_right, Nat.reduceAdd, Nat.add_zero, Nat.succ_ne_self, Nat.one_ne_zero, Nat.zero_ne_one, eq_self, and_self, and_true, true_and, and_false, false_and, if_true, if_false, reduceIte, Int.reduceToNat, Int.toNat_natCast, hw9]); exact rfl) ?_
    refine w_ic_ge (t := 29) f176_9 (by decide) (fun c1 => ?_) (fun c1 => by omega)
    refine w_iconst (v := 1) f176_29 (by decide) ?_
    refine w_zret f176_30 rfl (by decide) ?_
    exact ⟨a, b, ob_t (fun e1 q1 q2 => h4 e1 q1 (by omega))⟩
  | succ n ih =>
    intro e a b h2 h3 h4
    have hw9 : setv h a b 269 = w := (by repeat (first | exact hw | refine setv_w ?_ (by decide) | refine hput_w ?_ (by decide)))
    refine w_iloadn f176_2 rfl ?_
    refine w_aloadn f176_3 rfl (by omega) ?_
    refine w_getR f176_4 (by assumption) rfl (by omega) ?_
    refine w_iconst (v := 1) f176_7 (by decide) ?_
    refine w_iald f176_8 (by assumption) (by omega) (by (try simp only [hput, hcopy, Nat.reduceEqDiff, Nat.add_left_cancel_iff, Nat.add_right_cancel_iff, Nat.left_eq_add, Nat.add_eq_left, Nat.right_eq_add, Nat.add_eq_right, Nat.reduceAdd, Nat.add_zero, Nat.succ_ne_self, Nat.one_ne_zero, Nat.zero_ne_one, eq_self, and_self, and_true, true_and, and_false, false_and, if_true, if_false, reduceIte, Int.reduceToNat, Int.toNat_natCast, hw9]); exact rfl) ?_
    refine w_ic_ge (t := 29) f176_9 (by decide) (fun c1 => by omega) (fun c1 => ?_)
    refine w_aloadn f176_12 rfl (by omega) ?_
    refine w_iloadn f176_13 rfl ?_
    refine w_iloadn f176_14 rfl ?_
    refine w_cV f176_15 (Or.inl rfl) rfl (by omega) (okd_of (by assumption)) rfl ⟨Nat.le_of_ble_eq_true rfl, rfl, Nat.le_of_ble_eq_true rfl⟩ (en175 _ _ _) (s175 (w := w) (by repeat (first | exact hw | refine setv_w ?_ (by decide) | refine hput_w ?_ (by decide))) hf h1) (pv175 _ _) ?_
    rw [setv_setv]
    refine w_if_ne (t := 23) f176_18 (by decide) (fun c2 => ?_) (fun c2 => ?_)
    · refine w_iincn f176_23 rfl (by omega) (sto_3_2 rfl) ?_
      refine w_goto (t := 2) f176_26 (by decide) ?_
      exact ih _ _ _ (by omega) (by omega) (fun e1 q1 q2 => (by
            by_cases q3 : e1 = e
            · rw [q3]; exact c2
            · exact h4 e1 q1 (by omega)))
    · refine w_iconst (v := 0) f176_21 (by decide) ?_
      refine w_zret f176_22 rfl (by decide) ?_
      exact ⟨_, _, ob_f (fun z => z e h2 (by omega) c2)⟩
theorem s176 {c : Int} (hw : h 269 = w) (hf : WFt w) (h1 : 0 ≤ c ∧ c ≤ 9999) (hE : 0 ≤ w 1 ∧ w 1 ≤ 8) : Rn (ev 176 0 [AR 268, AI c, AU] [] (KS r d, h, R)) (fun o => ∃ a1 b1, o = (.inl (AI (b2i (stk w c))), (KS r d, setv h a1 b1, R))) := by
  have e0 : h = setv h (h 268 7) (h 268 8) := by
    unfold setv
    rw [hput_id rfl, hput_id rfl]
  refine w_iconst (v := 0) f176_0 (by decide) ?_
  refine w_istoren f176_1 (Nat.le_of_ble_eq_true rfl) (sto_3_2 rfl) ?_
  rw [e0]
  refine (l176 hw hE.2 hf h1 (w 1).toNat _ _ _ (by omega) (by omega) (fun e1 q1 q2 => absurd q1 (by omega))).mono ?_
  rintro o ⟨a1, b1, rfl⟩
  exact ⟨a1, b1, by rw [← e0]⟩
def udI (f : Nat → Int) (j : Nat) (v : Int) : Nat → Int := fun y => if y = j then v else f y
/-- a search's state: the steps by configuration, the configurations in their order, how many -/
abbrev BS : Type := (Nat → Int) × (Nat → Int) × Int
def bH (h : Nat → Nat → Int) (S : BS) (a b : Int) : Nat → Nat → Int := fun x y =>
  if x = 273 then (if y < 10000 then S.1 y else h 273 y) else if x = 274 then (if y < S.2.2.toNat then S.2.1 y else h 274 y)
  else if x = 268 then (if y = 11 then S.2.2 else if y = 7 then a else if y = 8 then b else h 268 y) else h x y
theorem bH_w {k : Nat} {S : BS} {a b : Int} (hw : h k = w) (hk : k ≠ 268 ∧ k ≠ 273 ∧ k ≠ 274) : bH h S a b k = w := by
  subst hw
  refine funext fun y => ?_
  unfold bH
  rw [if_neg (by omega), if_neg (by omega), if_neg (by omega)]
theorem bH_S {S : BS} {a b : Int} : Scr h (bH h S a b) := fun x y z => by
  unfold scr at z
  unfold bH
  rw [if_neg (by omega), if_neg (by omega)]
  split
  · next q => subst q; rw [if_neg (by omega), if_neg (by omega), if_neg (by omega)]
  · rfl
theorem bH_setv {S : BS} {a b c e : Int} : setv (bH h S a b) c e = bH h S c e := by
  refine funext fun x => funext fun y => ?_
  unfold setv hput bH
  by_cases h1 : x = 268
  · subst h1
    by_cases h2 : y = 7
    · subst h2; simp
    · by_cases h3 : y = 8
      · subst h3; simp
      · simp [h2, h3]
  · simp [h1]
def rc (S : BS) (c m : Int) : BS := if S.1 c.toNat = -1 then (udI S.1 c.toNat m, udI S.2.1 S.2.2.toNat c, S.2.2 + 1) else S
/-- how many of the first m are not -1 -/
def cnt (s : Nat → Int) : Nat → Nat
  | 0 => 0
  | m + 1 => cnt s m + (if s m = -1 then 0 else 1)
theorem cnt_le {s : Nat → Int} : ∀ m, cnt s m ≤ m
  | 0 => Nat.le_refl _
  | m + 1 => by
    have := cnt_le (s := s) m
    show cnt s m + (if s m = -1 then 0 else 1) ≤ _
    split <;> omega
theorem cnt_lt {s : Nat → Int} {y : Nat} (hy : s y = -1) : ∀ m, y < m → cnt s m < m
  | 0, h => absurd h (by omega)
  | m + 1, h => by
    have h1 := cnt_le (s := s) m
    show cnt s m + (if s m = -1 then 0 else 1) < _
    by_cases e : y = m
    · subst e
      rw [if_pos hy]; omega
    · have := cnt_lt hy m (by omega)
      split <;> omega
theorem cnt_same {s : Nat → Int} {y : Nat} {v : Int} : ∀ m, m ≤ y → cnt (udI s y v) m = cnt s m
  | 0, _ => rfl
  | m + 1, h => by
    show cnt (udI s y v) m + (if udI s y v m = -1 then 0 else 1) = cnt s m + _
    have e : udI s y v m = s m := if_neg (by omega)
    rw [cnt_same m (by omega), e]
theorem cnt_upd {s : Nat → Int} {y : Nat} {v : Int} (hy : s y = -1) (hv : v ≠ -1) : ∀ m, y < m → cnt (udI s y v) m = cnt s m + 1
  | 0, h => absurd h (by omega)
  | m + 1, h => by
    show cnt (udI s y v) m + (if udI s y v m = -1 then 0 else 1) = cnt s m + (if s m = -1 then 0 else 1) + 1
    by_cases e : y = m
    · subst e
      rw [cnt_same y (Nat.le_refl _), if_pos hy]
      unfold udI
      rw [if_pos rfl, if_neg hv]
    · have e1 : udI s y v m = s m := if_neg (fun q => e q.symm)
      rw [cnt_upd hy hv m (by omega), e1]
      omega
/-- what holds all through a search -/
def BI (S : BS) : Prop := (0 ≤ S.2.2 ∧ S.2.2 = cnt S.1 10000) ∧ (∀ y, y < 10000 → -1 ≤ S.1 y ∧ (S.1 y = -1 ∨ S.1 y < S.2.2)) ∧ ∀ i : Nat, (i : Int) < S.2.2 → 0 ≤ S.2.1 i ∧ S.2.1 i ≤ 9999 ∧ S.1 (S.2.1 i).toNat ≠ -1
theorem BI.n {S : BS} (hB : BI S) : 0 ≤ S.2.2 ∧ S.2.2 ≤ 10000 := by
  have := cnt_le (s := S.1) 10000
  have := hB.1
  omega
theorem BI.new {S : BS} (hB : BI S) {c : Int} (h1 : 0 ≤ c ∧ c ≤ 9999) (h2 : S.1 c.toNat = -1) : S.2.2 ≤ 9999 := by
  have := cnt_lt h2 10000 (by omega)
  have := hB.1
  omega
theorem BI.go {S : BS} (hB : BI S) {c m : Int} (h1 : 0 ≤ c ∧ c ≤ 9999) (h2 : 0 ≤ m ∧ m ≤ S.2.2) : BI (rc S c m) := by
  unfold rc
  split
  · next h3 =>
    have hn := hB.n
    refine ⟨⟨by show 0 ≤ S.2.2 + 1; omega, ?_⟩, fun y hy => ?_, fun i hi => ?_⟩
    · show S.2.2 + 1 = ((cnt (udI S.1 c.toNat m) 10000 : Nat) : Int)
      rw [cnt_upd h3 (by omega) 10000 (by omega)]
      have := hB.1.2
      omega
    · show -1 ≤ udI S.1 c.toNat m y ∧ (udI S.1 c.toNat m y = -1 ∨ udI S.1 c.toNat m y < S.2.2 + 1)
      have h4 := hB.2.1 y hy
      unfold udI
      split <;> omega
    · show 0 ≤ udI S.2.1 S.2.2.toNat c i ∧ udI S.2.1 S.2.2.toNat c i ≤ 9999 ∧ udI S.1 c.toNat m (udI S.2.1 S.2.2.toNat c i).toNat ≠ -1
      have hi : (i : Int) < S.2.2 + 1 := hi
      by_cases e : i = S.2.2.toNat
      · have e1 : udI S.2.1 S.2.2.toNat c i = c := if_pos e
        have e2 : udI S.1 c.toNat m c.toNat = m := if_pos rfl
        rw [e1, e2]
        omega
      · have e1 : udI S.2.1 S.2.2.toNat c i = S.2.1 i := if_neg e
        rw [e1]
        obtain ⟨a1, a2, a3⟩ := hB.2.2 i (by omega)
        refine ⟨a1, a2, ?_⟩
        unfold udI
        split
        · omega
        · exact a3
  · exact hB
theorem bH_put {S : BS} {a b c m : Int} (hB : BI S) (h1 : 0 ≤ c ∧ c ≤ 9999) (h2 : S.1 c.toNat = -1) : hput (hput (hput (bH h S a b) 273 c.toNat m) 274 S.2.2.toNat c) 268 11 (S.2.2 + 1) = bH h (rc S c m) a b := by
  have hn := hB.n
  unfold rc
  rw [if_pos h2]
  refine funext fun x => funext fun y => ?_
  unfold bH hput udI
  by_cases e1 : x = 273
  · subst e1
    by_cases e2 : y = c.toNat
    · subst e2; simp; omega
    · simp [e2]
  · by_cases e2 : x = 274
    · subst e2
      by_cases e3 : y = S.2.2.toNat
      · subst e3; simp; omega
      · have : (y < (S.2.2 + 1).toNat) = (y < S.2.2.toNat) := propext (by omega)
        simp [e3, this]
    · by_cases e3 : x = 268
      · subst e3
        by_cases e4 : y = 11
        · subst e4; simp
        · simp [e4]
      · simp [e1, e2, e3]
theorem bH_st {S : BS} {a b : Int} {y : Nat} (hy : y < 10000) : bH h S a b 273 y = S.1 y := by unfold bH; rw [if_pos rfl, if_pos hy]
theorem bH_ln {S : BS} {a b : Int} {y : Nat} (hy : y < S.2.2.toNat) : bH h S a b 274 y = S.2.1 y := by unfold bH; rw [if_neg (by decide), if_pos rfl, if_pos hy]
theorem bH_n {S : BS} {a b : Int} : bH h S a b 268 11 = S.2.2 := rfl
theorem bH_nx {S : BS} {a b : Int} : bH h S a b 268 8 = b := rfl
theorem bH_ch {S : BS} {a b : Int} : bH h S a b 268 7 = a := rfl
theorem s177 {S : BS} {a b c m : Int} (hB : BI S) (h1 : 0 ≤ c ∧ c ≤ 9999) : ev 177 0 [AR 268, AI c, AI m] [] (KS r d, bH h S a b, R) = some (.inl AU, (KS r d, bH h (rc S c m) a b, R)) := by
  refine Rn.eq ?_
  have k0 := @kd_268 r d
  have k1 := @kd_273 r d
  have k2 := @kd_274 r d
  have hn := hB.n
  have e1 := bH_st (h := h) (S := S) (a := a) (b := b) (y := c.toNat) (by omega)
  have e2 := bH_n (h := h) (S := S) (a := a) (b := b)
  refine w_aloadn f177_0 rfl (by omega) ?_
  refine w_getR f177_1 (by assumption) rfl (by omega) ?_
  refine w_iloadn f177_4 rfl ?_
  refine w_iald f177_5 (by assumption) (by omega) (by (try simp only [hput, hcopy, Nat.reduceEqDiff, Nat.add_left_cancel_iff, Nat.add_right_cancel_iff, Nat.left_eq_add, Nat.add_eq_left, Nat.right_eq_add, Nat.add_eq_right, Nat.reduceAdd, Nat.add_zero, Nat.succ_ne_self, Nat.one_ne_zero, Nat.zero_ne_one, eq_self, and_self, and_true, true_and, and_false, false_and, if_true, if_false, reduceIte, Int.reduceToNat, Int.toNat_natCast, e1, e2]); exact rfl) ?_
  refine w_iconst (v := -1) f177_6 (by decide) ?_
  refine w_ic_eq (t := 11) f177_7 (by decide) (fun c1 => ?_) (fun c1 => ?_)
  · have h3 := hB.new h1 c1
    refine w_aloadn f177_11 rfl (by omega) ?_
    refine w_getR f177_12 (by assumption) rfl (by omega) ?_
    refine w_iloadn f177_15 rfl ?_
    refine w_iloadn f177_16 rfl ?_
    refine w_iast f177_17 (by assumption) (by omega) ?_
    refine w_aloadn f177_18 rfl (by omega) ?_
    refine w_getR f177_19 (by assumption) rfl (by omega) ?_
    refine w_aloadn f177_22 rfl (by omega) ?_
    refine w_getI f177_23 (by decide) (by assumption) (by (try simp only [hput, hcopy, Nat.reduceEqDiff, Nat.add_left_cancel_iff, Nat.add_right_cancel_iff, Nat.left_eq_add, Nat.add_eq_left, Nat.right_eq_add, Nat.add_eq_right, Nat.reduceAdd, Nat.add_zero, Nat.succ_ne_self, Nat.one_ne_zero, Nat.zero_ne_one, eq_self, and_self, and_true, true_and, and_false, false_and, if_true, if_false, reduceIte, Int.reduceToNat, Int.toNat_natCast, e1, e2]); exact rfl) ?_
    refine w_iloadn f177_26 rfl ?_
    refine w_iast f177_27 (by assumption) (by omega) ?_
    refine w_aloadn f177_28 rfl (by omega) ?_
    refine w_dup f177_29 rfl ?_
    refine w_getI f177_30 (by decide) (by assumption) (by (try simp only [hput, hcopy, Nat.reduceEqDiff, Nat.add_left_cancel_iff, Nat.add_right_cancel_iff, Nat.left_eq_add, Nat.add_eq_left, Nat.right_eq_add, Nat.add_eq_right, Nat.reduceAdd, Nat.add_zero, Nat.succ_ne_self, Nat.one_ne_zero, Nat.zero_ne_one, eq_self, and_self, and_true, true_and, and_false, false_and, if_true, if_false, reduceIte, Int.reduceToNat, Int.toNat_natCast, e1, e2]); exact rfl) ?_
    refine w_iconst (v := 1) f177_33 (by decide) ?_
    refine w_iaddn f177_34 (by omega) ?_
    refine w_putI f177_35 (by assumption) ?_
    refine w_ret f177_38 rfl ?_
    rw [bH_put hB h1 c1]
  · refine w_ret f177_10 rfl ?_
    unfold rc; rw [if_neg c1]
end A

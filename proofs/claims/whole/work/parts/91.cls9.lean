/-! fill -/
section A
variable {K : List AKd} {h : Nat → Nat → Int} {R : R4} {σ : Sg} {r d : Nat} {w : Nat → Int} {b : Nat → Int} {n : Int}
/-- the cells of k from 0 to m hold v -/
def fiH (h : Nat → Nat → Int) (k : Nat) (m : Nat) (v : Int) : Nat → Nat → Int := fun x y => if x = k ∧ y < m then v else h x y
theorem fiH_0 {k : Nat} {v : Int} : fiH h k 0 v = h := funext fun x => funext fun y => if_neg (by omega)
theorem fiH_s {k m : Nat} {v : Int} : hput (fiH h k m v) k m v = fiH h k (m + 1) v := by
  refine funext fun x => funext fun y => ?_
  unfold hput fiH
  by_cases e : x = k ∧ y = m
  · rw [if_pos e, if_pos (by omega)]
  · rw [if_neg e]
    by_cases e2 : x = k ∧ y < m
    · rw [if_pos e2, if_pos (by omega)]
    · rw [if_neg e2, if_neg (by omega)]
theorem l284 {k m : Nat} {v : Int} (hk : kdK (KS r d) k = some (20, m, [])) (hm : m < 100000) (hk0 : 0 < k) : ∀ (f i : Nat), i + f = m → ev 284 5 [AR k, AI v, AI i, AI m] [] (KS r d, fiH h k i v, R) = some (.inl AU, (KS r d, fiH h k m v, R)) := by
  intro f
  induction f with
  | zero =>
    intro i hi
    have e : i = m := by omega
    subst e
    refine Rn.eq ?_
    refine w_iloadn f284_5 rfl ?_
    refine w_iloadn f284_6 rfl ?_
    refine w_ic_ge (t := 20) f284_7 (by decide) (fun c1 => ?_) (fun c1 => by omega)
    refine w_ret f284_20 rfl ?_
    rfl
  | succ f ih =>
    intro i hi
    refine Rn.eq ?_
    have z := ih (i + 1) (by omega)
    have e1 : hput (fiH h k i v) k (i : Int).toNat v = fiH h k (i + 1) v := fiH_s
    refine w_iloadn f284_5 rfl ?_
    refine w_iloadn f284_6 rfl ?_
    refine w_ic_ge (t := 20) f284_7 (by decide) (fun c1 => by omega) (fun c1 => ?_)
    refine w_aloadn f284_10 rfl (by omega) ?_
    refine w_iloadn f284_11 rfl ?_
    refine w_iloadn f284_12 rfl ?_
    refine w_iast f284_13 (by assumption) (by omega) ?_
    refine w_iincn f284_14 rfl (by omega) (sto_4_2 rfl) ?_
    refine w_goto (t := 5) f284_17 (by decide) ?_
    rw [e1]
    exact Rn.to z rfl
theorem s284 {k m : Nat} {v : Int} (hk : kdK (KS r d) k = some (20, m, [])) (hm : m < 100000) (hk0 : 0 < k) : ev 284 0 [AR k, AI v, AU, AU] [] (KS r d, h, R) = some (.inl AU, (KS r d, fiH h k m v, R)) := by
  refine Rn.eq ?_
  have z := l284 (R := R) (h := h) (v := v) hk hm hk0 m 0 (by omega)
  rw [fiH_0] at z
  refine w_iconst (v := 0) f284_0 (by decide) ?_
  refine w_istoren f284_1 (Nat.le_of_ble_eq_true rfl) (sto_4_2 rfl) ?_
  refine w_aloadn f284_2 rfl (by omega) ?_
  refine w_alen f284_3 (by assumption) (by omega) ?_
  refine w_istoren f284_4 (Nat.le_of_ble_eq_true rfl) (sto_4_3 rfl) ?_
  exact Rn.to z rfl
end A

/-! the reference's quotients -/
section A
variable {K : List AKd} {h : Nat → Nat → Int} {R : R4} {σ : Sg} {r d : Nat} {w : Nat → Int} {b : Nat → Int} {n : Int}
theorem fd_ok : ∀ x : Fin 25, ∀ y : Fin 24, FP.fdiv (FP.i2f (Int32.ofInt ((x.val : Nat) : Int))) (FP.i2f (Int32.ofInt ((y.val + 1 : Nat) : Int))) &&& 0x7fffffff ≤ 0x7f800000 := by decide +kernel
theorem dd_ok : ∀ x : Fin 28, ∀ y : Fin 3, FP.ddiv (FP.i2d (Int32.ofInt ((x.val : Nat) : Int))) (FP.i2d (Int32.ofInt ((y.val + 1 : Nat) : Int))) &&& 0x7fffffffffffffff ≤ 0x7ff0000000000000 := by decide +kernel
theorem fd_i {x y : Int} (hx : 0 ≤ x ∧ x ≤ 24) (hy : 1 ≤ y ∧ y ≤ 24) : FP.fdiv (FP.i2f (Int32.ofInt x)) (FP.i2f (Int32.ofInt y)) &&& 0x7fffffff ≤ 0x7f800000 := by
  have z := fd_ok ⟨x.toNat, by omega⟩ ⟨(y - 1).toNat, by omega⟩
  rw [show ((x.toNat : Nat) : Int) = x by omega, show (((y - 1).toNat + 1 : Nat) : Int) = y by omega] at z
  exact z
theorem dd_i {x y : Int} (hx : 0 ≤ x ∧ x ≤ 27) (hy : 1 ≤ y ∧ y ≤ 3) : FP.ddiv (FP.i2d (Int32.ofInt x)) (FP.i2d (Int32.ofInt y)) &&& 0x7fffffffffffffff ≤ 0x7ff0000000000000 := by
  have z := dd_ok ⟨x.toNat, by omega⟩ ⟨(y - 1).toNat, by omega⟩
  rw [show ((x.toNat : Nat) : Int) = x by omega, show (((y - 1).toNat + 1 : Nat) : Int) = y by omega] at z
  exact z
def covW (w : Nat → Int) : UInt32 := FP.fdiv (FP.i2f (Int32.ofInt (cnG w 59 (w 0).toNat 0 0))) (FP.i2f (Int32.ofInt (w 0)))
theorem s255 (hw : h 269 = w) (hW : WFb w) (h1 : 1 ≤ w 0) : ev 255 0 [AR 268] [] (KS r d, h, R) = some (.inl (AF (covW w)), (KS r d, hput h 268 6 0, R)) := by
  refine Rn.eq ?_
  have k0 := @kd_268 r d
  have k1 := @kd_269 r d
  have v0 := hW.1
  have c := cnG_r (w := w) (f := 59) (w 0).toNat 0 0
  refine w_aloadn f255_0 rfl (by omega) ?_
  refine w_iconst (v := 0) f255_1 (by decide) ?_
  refine w_putI f255_2 (by assumption) ?_
  refine w_aloadn f255_5 rfl (by omega) ?_
  refine w_bipush (v := 59) f255_6 (by decide) ?_
  refine w_iconst (v := 0) f255_8 (by decide) ?_
  refine w_cV f255_9 (Or.inl rfl) rfl (by omega) (okd_of (by assumption)) rfl ⟨Nat.le_of_ble_eq_true rfl, rfl, Nat.le_of_ble_eq_true rfl⟩ (en253 _ _ _) (s253 (w := w) (nm := 0) (by repeat (first | exact hw | refine setv_w ?_ (by decide) | refine hput_w ?_ (by decide))) rfl (by decide) (by omega) (by omega)) (pv253 _ _) ?_
  refine w_i2f f255_12 ?_
  refine w_aloadn f255_13 rfl (by omega) ?_
  refine w_getR f255_14 (by assumption) rfl (by omega) ?_
  refine w_iconst (v := 0) f255_17 (by decide) ?_
  refine w_iald f255_18 (by assumption) (by omega) (by repeat (first | exact hput_s | (apply Eq.trans (hput_k (by first | decide | omega))) | (apply Eq.trans (hput_j (by first | decide | omega))) | exact congrFun hw _ | exact rfl)) ?_
  refine w_i2f f255_19 ?_
  refine w_fdiv f255_20 (by exact fd_i (y := w 0) (by omega) (by omega)) ?_
  refine w_fret f255_21 rfl ?_
  rfl
def tcvW (w : Nat → Int) : UInt32 := if w 3 = 0 then FP.fconst1 else FP.fdiv (FP.i2f (Int32.ofInt (cnG w 69 (w 3).toNat 0 0))) (FP.i2f (Int32.ofInt (w 3)))
theorem s256 (hw : h 269 = w) (hW : WFb w) : ev 256 0 [AR 268] [] (KS r d, h, R) = some (.inl (AF (tcvW w)), (KS r d, hput h 268 6 0, R)) := by
  refine Rn.eq ?_
  have k0 := @kd_268 r d
  have k1 := @kd_269 r d
  have v3 := hW.2.2.2.1
  have c := cnG_r (w := w) (f := 69) (w 3).toNat 0 0
  refine w_aloadn f256_0 rfl (by omega) ?_
  refine w_iconst (v := 0) f256_1 (by decide) ?_
  refine w_putI f256_2 (by assumption) ?_
  refine w_aloadn f256_5 rfl (by omega) ?_
  refine w_getR f256_6 (by assumption) rfl (by omega) ?_
  refine w_iconst (v := 3) f256_9 (by decide) ?_
  refine w_iald f256_10 (by assumption) (by omega) (by repeat (first | exact hput_s | (apply Eq.trans (hput_k (by first | decide | omega))) | (apply Eq.trans (hput_j (by first | decide | omega))) | exact congrFun hw _ | exact rfl)) ?_
  refine w_if_ne (t := 18) f256_11 (by decide) (fun c1 => ?_) (fun c1 => ?_)
  · refine w_aloadn f256_18 rfl (by omega) ?_
    refine w_bipush (v := 69) f256_19 (by decide) ?_
    refine w_iconst (v := 3) f256_21 (by decide) ?_
    refine w_cV f256_22 (Or.inl rfl) rfl (by omega) (okd_of (by assumption)) rfl ⟨Nat.le_of_ble_eq_true rfl, rfl, Nat.le_of_ble_eq_true rfl⟩ (en253 _ _ _) (s253 (w := w) (nm := 3) (by repeat (first | exact hw | refine setv_w ?_ (by decide) | refine hput_w ?_ (by decide))) rfl (by decide) (by omega) (by omega)) (pv253 _ _) ?_
    refine w_i2f f256_25 ?_
    refine w_aloadn f256_26 rfl (by omega) ?_
    refine w_getR f256_27 (by assumption) rfl (by omega) ?_
    refine w_iconst (v := 3) f256_30 (by decide) ?_
    refine w_iald f256_31 (by assumption) (by omega) (by repeat (first | exact hput_s | (apply Eq.trans (hput_k (by first | decide | omega))) | (apply Eq.trans (hput_j (by first | decide | omega))) | exact congrFun hw _ | exact rfl)) ?_
    refine w_i2f f256_32 ?_
    refine w_fdiv f256_33 (by exact fd_i (y := w 3) (by omega) (by have z : w 3 ≠ 0 := c1; omega)) ?_
    refine w_fret f256_34 rfl ?_
    unfold tcvW; first | (rw [if_pos (show w 3 = 0 from c1)]; done) | (rw [if_neg (show w 3 ≠ 0 from c1)]; rfl)
  · refine w_fconst f256_14 ?_
    refine w_goto (t := 34) f256_15 (by decide) ?_
    refine w_fret f256_34 rfl ?_
    unfold tcvW; first | (rw [if_pos (show w 3 = 0 from c1)]; done) | (rw [if_neg (show w 3 ≠ 0 from c1)]; rfl)
theorem smG_r {f : Int} : ∀ (n : Nat) (k a : Int), 0 ≤ a → a + 9 * n ≤ 1000 → (∀ i, k ≤ i → i < k + n → 0 ≤ w (f + i).toNat ∧ w (f + i).toNat ≤ 9) → a ≤ smG w f n k a ∧ smG w f n k a ≤ a + 9 * n
  | 0, _, a, _, _, _ => ⟨Int.le_refl _, by show a ≤ a + 9 * ((0 : Nat) : Int); omega⟩
  | n + 1, k, a, h1, h2, h3 => by
    have g := h3 k (by omega) (by omega)
    have e : wr (a + w (f + k).toNat) = a + w (f + k).toNat := by unfold wr; omega
    have z := smG_r (f := f) n (k + 1) (a + w (f + k).toNat) (by omega) (by omega) (fun i h4 h5 => h3 i (by omega) (by omega))
    unfold smG
    rw [e]
    omega
theorem vals_r (hc : WFc w) {i : Int} (h : 0 ≤ i ∧ i < 3) : 0 ≤ w (6 + i).toNat ∧ w (6 + i).toNat ≤ 9 := by
  rcases (show i = 0 ∨ i = 1 ∨ i = 2 by omega) with e | e | e
  · rw [e]; exact hc.2.1
  · rw [e]; exact hc.2.2.1
  · rw [e]; exact hc.2.2.2
def menW (w : Nat → Int) : UInt64 := FP.ddiv (FP.i2d (Int32.ofInt (smG w 6 (w 2).toNat 0 0))) (FP.i2d (Int32.ofInt (w 2)))
theorem s270 (hw : h 269 = w) (hW : WFb w) (hc : WFc w) (h1 : 1 ≤ w 2) : ev 270 0 [AR 268] [] (KS r d, h, R) = some (.inl (AD (menW w)), (KS r d, hput h 268 6 0, R)) := by
  refine Rn.eq ?_
  have k0 := @kd_268 r d
  have k1 := @kd_269 r d
  have v2 := hW.2.2.1
  have c := smG_r (w := w) (f := 6) (w 2).toNat 0 0 (by omega) (by omega) (fun i h4 h5 => vals_r hc ⟨h4, by omega⟩)
  refine w_aloadn f270_0 rfl (by omega) ?_
  refine w_iconst (v := 0) f270_1 (by decide) ?_
  refine w_putI f270_2 (by assumption) ?_
  refine w_aloadn f270_5 rfl (by omega) ?_
  refine w_bipush (v := 6) f270_6 (by decide) ?_
  refine w_iconst (v := 2) f270_8 (by decide) ?_
  refine w_cV f270_9 (Or.inl rfl) rfl (by omega) (okd_of (by assumption)) rfl ⟨Nat.le_of_ble_eq_true rfl, rfl, Nat.le_of_ble_eq_true rfl⟩ (en254 _ _ _) (s254 (w := w) (nm := 2) (by repeat (first | exact hw | refine setv_w ?_ (by decide) | refine hput_w ?_ (by decide))) rfl (by decide) (by omega) (by omega)) (pv254 _ _) ?_
  refine w_i2d f270_12 ?_
  refine w_aloadn f270_13 rfl (by omega) ?_
  refine w_getR f270_14 (by assumption) rfl (by omega) ?_
  refine w_iconst (v := 2) f270_17 (by decide) ?_
  refine w_iald f270_18 (by assumption) (by omega) (by repeat (first | exact hput_s | (apply Eq.trans (hput_k (by first | decide | omega))) | (apply Eq.trans (hput_j (by first | decide | omega))) | exact congrFun hw _ | exact rfl)) ?_
  refine w_i2d f270_19 ?_
  refine w_ddiv f270_20 (by exact dd_i (y := w 2) (by omega) (by omega)) ?_
  refine w_dret f270_21 rfl ?_
  rfl
end A

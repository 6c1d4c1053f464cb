/-! the reference's searches asked out of range -/
section A
variable {K : List AKd} {h : Nat → Nat → Int} {R : R4} {σ : Sg} {r d : Nat} {w : Nat → Int}
theorem s262f {i : Int} (hw : h 269 = w) (hN : 0 ≤ w 0 ∧ w 0 ≤ 10) (hi : ¬ (0 ≤ i ∧ i < w 0)) : ev 262 0 [AR 268, AI i] [] (KS r d, h, R) = some (.inl (AI 0), (KS r d, hput h 268 6 1, R)) := by
  refine Rn.eq ?_
  have k0 := @kd_268 r d
  refine w_aloadn f262_0 rfl (by omega) ?_
  refine w_iconst (v := 0) f262_1 (by decide) ?_
  refine w_putI f262_2 (by assumption) ?_
  refine w_aloadn f262_5 rfl (by omega) ?_
  refine w_iloadn f262_6 rfl ?_
  refine w_iconst (v := 0) f262_7 (by decide) ?_
  refine w_cV f262_8 (Or.inl rfl) rfl (by omega) (okd_of (by assumption)) rfl ⟨Nat.le_of_ble_eq_true rfl, rfl, Nat.le_of_ble_eq_true rfl⟩ (en232 _ _ _) (s232f (w := w) (nj := 0) (by repeat (first | exact hw | refine setv_w ?_ (by decide) | refine hput_w ?_ (by decide))) rfl (by decide) (by omega) hi) (pv232 _ _) ?_
  refine w_if_ne (t := 31) f262_11 (by decide) (fun c1 => ?_) (fun c1 => by omega)
  refine w_iconst (v := 0) f262_31 (by decide) ?_
  refine w_zret f262_32 rfl (by decide) ?_
  rw [hput_ss]
theorem s264f {i : Int} (hw : h 269 = w) (hN : 0 ≤ w 0 ∧ w 0 ≤ 10) (hi : ¬ (0 ≤ i ∧ i < w 0)) : ev 264 0 [AR 268, AI i] [] (KS r d, h, R) = some (.inl (AI 0), (KS r d, hput h 268 6 1, R)) := by
  refine Rn.eq ?_
  have k0 := @kd_268 r d
  refine w_aloadn f264_0 rfl (by omega) ?_
  refine w_iconst (v := 0) f264_1 (by decide) ?_
  refine w_putI f264_2 (by assumption) ?_
  refine w_aloadn f264_5 rfl (by omega) ?_
  refine w_iloadn f264_6 rfl ?_
  refine w_iconst (v := 0) f264_7 (by decide) ?_
  refine w_cV f264_8 (Or.inl rfl) rfl (by omega) (okd_of (by assumption)) rfl ⟨Nat.le_of_ble_eq_true rfl, rfl, Nat.le_of_ble_eq_true rfl⟩ (en232 _ _ _) (s232f (w := w) (nj := 0) (by repeat (first | exact hw | refine setv_w ?_ (by decide) | refine hput_w ?_ (by decide))) rfl (by decide) (by omega) hi) (pv232 _ _) ?_
  refine w_if_eq (t := 18) f264_11 (by decide) (fun c1 => by omega) (fun c1 => ?_)
  refine w_iconst (v := 0) f264_14 (by decide) ?_
  refine w_goto (t := 27) f264_15 (by decide) ?_
  refine w_iret f264_27 rfl ?_
  rw [hput_ss]
theorem s263f {i : Int} (hw : h 269 = w) (hN : 0 ≤ w 3 ∧ w 3 ≤ 24) (hi : ¬ (0 ≤ i ∧ i < w 3)) : ev 263 0 [AR 268, AI i, AU] [] (KS r d, h, R) = some (.inl (AI 0), (KS r d, hput h 268 6 1, R)) := by
  refine Rn.eq ?_
  have k0 := @kd_268 r d
  refine w_aloadn f263_0 rfl (by omega) ?_
  refine w_iconst (v := 0) f263_1 (by decide) ?_
  refine w_putI f263_2 (by assumption) ?_
  refine w_aloadn f263_5 rfl (by omega) ?_
  refine w_iloadn f263_6 rfl ?_
  refine w_iconst (v := 3) f263_7 (by decide) ?_
  refine w_cV f263_8 (Or.inl rfl) rfl (by omega) (okd_of (by assumption)) rfl ⟨Nat.le_of_ble_eq_true rfl, rfl, Nat.le_of_ble_eq_true rfl⟩ (en232 _ _ _) (s232f (w := w) (nj := 3) (by repeat (first | exact hw | refine setv_w ?_ (by decide) | refine hput_w ?_ (by decide))) rfl (by decide) (by omega) hi) (pv232 _ _) ?_
  refine w_if_eq (t := 16) f263_11 (by decide) (fun c1 => by omega) (fun c1 => ?_)
  refine w_iconst (v := 0) f263_14 (by decide) ?_
  refine w_zret f263_15 rfl (by decide) ?_
  rw [hput_ss]
theorem s265f {i : Int} (hw : h 269 = w) (hN : 0 ≤ w 0 ∧ w 0 ≤ 10) (hi : ¬ (0 ≤ i ∧ i < w 0)) : ev 265 0 [AR 268, AI i, AU, AU] [] (KS r d, h, R) = some (.inl (AI 0), (KS r d, hput h 268 6 1, R)) := by
  refine Rn.eq ?_
  have k0 := @kd_268 r d
  refine w_aloadn f265_0 rfl (by omega) ?_
  refine w_iconst (v := 0) f265_1 (by decide) ?_
  refine w_putI f265_2 (by assumption) ?_
  refine w_aloadn f265_5 rfl (by omega) ?_
  refine w_iloadn f265_6 rfl ?_
  refine w_iconst (v := 0) f265_7 (by decide) ?_
  refine w_cV f265_8 (Or.inl rfl) rfl (by omega) (okd_of (by assumption)) rfl ⟨Nat.le_of_ble_eq_true rfl, rfl, Nat.le_of_ble_eq_true rfl⟩ (en232 _ _ _) (s232f (w := w) (nj := 0) (by repeat (first | exact hw | refine setv_w ?_ (by decide) | refine hput_w ?_ (by decide))) rfl (by decide) (by omega) hi) (pv232 _ _) ?_
  refine w_if_eq (t := 16) f265_11 (by decide) (fun c1 => by omega) (fun c1 => ?_)
  refine w_iconst (v := 0) f265_14 (by decide) ?_
  refine w_iret f265_15 rfl ?_
  rw [hput_ss]
end A

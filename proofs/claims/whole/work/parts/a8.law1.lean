/-! the law's calls that may throw -/
section A
variable {K : List AKd} {h : Nat → Nat → Int} {R : R4} {σ : Sg} {r d : Nat} {P : (Nat → Nat → Int) → Prop} {v : Int}
theorem wT285 {x0 x1 : Int} (hc : Rn (ev 84 0 [AR 1, AI x0, AI x1] [] (KS r d, h, R)) (fun o => ∃ h1, P h1 ∧ o = (.inl (AI v), (KS r d, h1, R)))) : Rn (ev 285 0 [AR 1, AI x0, AI x1, AR 282, AU] [] (KS r d, h, R)) (fun o => ∃ h1, P h1 ∧ o = (.inl (AI 0), (KS r d, hput h1 282 0 v, R))) := by
  have k1 := @kd_1 r d
  have k282 := @kd_282 r d
  refine w_aloadn f285_0 rfl (by omega) ?_
  refine w_iconst (v := 0) f285_1 (by decide) ?_
  refine w_aloadn f285_2 rfl (by omega) ?_
  refine w_iloadn f285_3 rfl ?_
  refine w_iloadn f285_4 rfl ?_
  refine w_qV f285_5 (Or.inl rfl) rfl (by omega) (okd_of (by assumption)) rfl ⟨Nat.le_of_ble_eq_true rfl, rfl, Nat.le_of_ble_eq_true rfl⟩ (en84 _ _ _) (hc) (fun o9 ho9 => ?_)
  obtain ⟨h1, p, rfl⟩ := ho9
  refine w_bok (pv84 _ _) ?_
  refine w_i2l f285_8 ?_
  refine w_last f285_9 (by assumption) (by omega) ?_
  refine w_goto (t := 17) f285_10 (by decide) ?_
  refine w_iconst (v := 0) f285_17 (by decide) ?_
  refine w_iret f285_18 rfl ?_
  exact ⟨h1, p, rfl⟩
theorem wF285_0 {x0 x1 : Int} (hc : Rn (ev 84 0 [AR 1, AI x0, AI x1] [] (KS r d, h, R)) (fun o => ∃ h1, P h1 ∧ o = (.inr 0, bump (KS r d, h1, R)))) : Rn (ev 285 0 [AR 1, AI x0, AI x1, AR 282, AU] [] (KS r d, h, R)) (fun o => ∃ h1, P h1 ∧ o = (.inl (AI 1), bump (KS r d, h1, R))) := by
  have k1 := @kd_1 r d
  have k282 := @kd_282 r d
  refine w_aloadn f285_0 rfl (by omega) ?_
  refine w_iconst (v := 0) f285_1 (by decide) ?_
  refine w_aloadn f285_2 rfl (by omega) ?_
  refine w_iloadn f285_3 rfl ?_
  refine w_iloadn f285_4 rfl ?_
  refine w_qV f285_5 (Or.inl rfl) rfl (by omega) (okd_of (by assumption)) rfl ⟨Nat.le_of_ble_eq_true rfl, rfl, Nat.le_of_ble_eq_true rfl⟩ (en84 _ _ _) (hc) (fun o9 ho9 => ?_)
  obtain ⟨h1, p, rfl⟩ := ho9
  refine ⟨(.inl (AI 1), _), (show hnd 285 84 0 _ = _ from rfl), ?_⟩
  exact ⟨h1, p, rfl⟩
theorem wT286 {x0 x1 : Int} (hc : Rn (ev 85 0 [AR 1, AI x0, AI x1] [] (KS r d, h, R)) (fun o => ∃ h1, P h1 ∧ o = (.inl (AI v), (KS r d, h1, R)))) : Rn (ev 286 0 [AR 1, AI x0, AI x1, AR 282, AU] [] (KS r d, h, R)) (fun o => ∃ h1, P h1 ∧ o = (.inl (AI 0), (KS r d, hput h1 282 0 v, R))) := by
  have k1 := @kd_1 r d
  have k282 := @kd_282 r d
  refine w_aloadn f286_0 rfl (by omega) ?_
  refine w_iconst (v := 0) f286_1 (by decide) ?_
  refine w_aloadn f286_2 rfl (by omega) ?_
  refine w_iloadn f286_3 rfl ?_
  refine w_iloadn f286_4 rfl ?_
  refine w_qV f286_5 (Or.inl rfl) rfl (by omega) (okd_of (by assumption)) rfl ⟨Nat.le_of_ble_eq_true rfl, rfl, Nat.le_of_ble_eq_true rfl⟩ (en85 _ _ _) (hc) (fun o9 ho9 => ?_)
  obtain ⟨h1, p, rfl⟩ := ho9
  refine w_bok (pv85 _ _) ?_
  refine w_i2l f286_8 ?_
  refine w_last f286_9 (by assumption) (by omega) ?_
  refine w_goto (t := 17) f286_10 (by decide) ?_
  refine w_iconst (v := 0) f286_17 (by decide) ?_
  refine w_iret f286_18 rfl ?_
  exact ⟨h1, p, rfl⟩
theorem wF286_0 {x0 x1 : Int} (hc : Rn (ev 85 0 [AR 1, AI x0, AI x1] [] (KS r d, h, R)) (fun o => ∃ h1, P h1 ∧ o = (.inr 0, bump (KS r d, h1, R)))) : Rn (ev 286 0 [AR 1, AI x0, AI x1, AR 282, AU] [] (KS r d, h, R)) (fun o => ∃ h1, P h1 ∧ o = (.inl (AI 1), bump (KS r d, h1, R))) := by
  have k1 := @kd_1 r d
  have k282 := @kd_282 r d
  refine w_aloadn f286_0 rfl (by omega) ?_
  refine w_iconst (v := 0) f286_1 (by decide) ?_
  refine w_aloadn f286_2 rfl (by omega) ?_
  refine w_iloadn f286_3 rfl ?_
  refine w_iloadn f286_4 rfl ?_
  refine w_qV f286_5 (Or.inl rfl) rfl (by omega) (okd_of (by assumption)) rfl ⟨Nat.le_of_ble_eq_true rfl, rfl, Nat.le_of_ble_eq_true rfl⟩ (en85 _ _ _) (hc) (fun o9 ho9 => ?_)
  obtain ⟨h1, p, rfl⟩ := ho9
  refine ⟨(.inl (AI 1), _), (show hnd 286 85 0 _ = _ from rfl), ?_⟩
  exact ⟨h1, p, rfl⟩
theorem wT287 {x0 x1 : Int} (hc : Rn (ev 86 0 [AR 1, AI x0, AI x1] [] (KS r d, h, R)) (fun o => ∃ h1, P h1 ∧ o = (.inl (AI v), (KS r d, h1, R)))) : Rn (ev 287 0 [AR 1, AI x0, AI x1, AR 282, AU] [] (KS r d, h, R)) (fun o => ∃ h1, P h1 ∧ o = (.inl (AI 0), (KS r d, hput h1 282 0 v, R))) := by
  have k1 := @kd_1 r d
  have k282 := @kd_282 r d
  refine w_aloadn f287_0 rfl (by omega) ?_
  refine w_iconst (v := 0) f287_1 (by decide) ?_
  refine w_aloadn f287_2 rfl (by omega) ?_
  refine w_iloadn f287_3 rfl ?_
  refine w_iloadn f287_4 rfl ?_
  refine w_qV f287_5 (Or.inl rfl) rfl (by omega) (okd_of (by assumption)) rfl ⟨Nat.le_of_ble_eq_true rfl, rfl, Nat.le_of_ble_eq_true rfl⟩ (en86 _ _ _) (hc) (fun o9 ho9 => ?_)
  obtain ⟨h1, p, rfl⟩ := ho9
  refine w_bok (pv86 _ _) ?_
  refine w_i2l f287_8 ?_
  refine w_last f287_9 (by assumption) (by omega) ?_
  refine w_goto (t := 17) f287_10 (by decide) ?_
  refine w_iconst (v := 0) f287_17 (by decide) ?_
  refine w_iret f287_18 rfl ?_
  exact ⟨h1, p, rfl⟩
theorem wF287_0 {x0 x1 : Int} (hc : Rn (ev 86 0 [AR 1, AI x0, AI x1] [] (KS r d, h, R)) (fun o => ∃ h1, P h1 ∧ o = (.inr 0, bump (KS r d, h1, R)))) : Rn (ev 287 0 [AR 1, AI x0, AI x1, AR 282, AU] [] (KS r d, h, R)) (fun o => ∃ h1, P h1 ∧ o = (.inl (AI 1), bump (KS r d, h1, R))) := by
  have k1 := @kd_1 r d
  have k282 := @kd_282 r d
  refine w_aloadn f287_0 rfl (by omega) ?_
  refine w_iconst (v := 0) f287_1 (by decide) ?_
  refine w_aloadn f287_2 rfl (by omega) ?_
  refine w_iloadn f287_3 rfl ?_
  refine w_iloadn f287_4 rfl ?_
  refine w_qV f287_5 (Or.inl rfl) rfl (by omega) (okd_of (by assumption)) rfl ⟨Nat.le_of_ble_eq_true rfl, rfl, Nat.le_of_ble_eq_true rfl⟩ (en86 _ _ _) (hc) (fun o9 ho9 => ?_)
  obtain ⟨h1, p, rfl⟩ := ho9
  refine ⟨(.inl (AI 1), _), (show hnd 287 86 0 _ = _ from rfl), ?_⟩
  exact ⟨h1, p, rfl⟩
theorem wT288 {x0 : Int} (hc : Rn (ev 88 0 [AR 1, AI x0] [] (KS r d, h, R)) (fun o => ∃ h1, P h1 ∧ o = (.inl (AI v), (KS r d, h1, R)))) : Rn (ev 288 0 [AR 1, AI x0, AR 282, AU] [] (KS r d, h, R)) (fun o => ∃ h1, P h1 ∧ o = (.inl (AI 0), (KS r d, hput h1 282 0 v, R))) := by
  have k1 := @kd_1 r d
  have k282 := @kd_282 r d
  refine w_aloadn f288_0 rfl (by omega) ?_
  refine w_iconst (v := 0) f288_1 (by decide) ?_
  refine w_aloadn f288_2 rfl (by omega) ?_
  refine w_iloadn f288_3 rfl ?_
  refine w_qV f288_4 (Or.inl rfl) rfl (by omega) (okd_of (by assumption)) rfl ⟨Nat.le_of_ble_eq_true rfl, rfl, Nat.le_of_ble_eq_true rfl⟩ (en88 _ _) (hc) (fun o9 ho9 => ?_)
  obtain ⟨h1, p, rfl⟩ := ho9
  refine w_bok (pv88 _ _) ?_
  refine w_i2l f288_7 ?_
  refine w_last f288_8 (by assumption) (by omega) ?_
  refine w_goto (t := 15) f288_9 (by decide) ?_
  refine w_iconst (v := 0) f288_15 (by decide) ?_
  refine w_iret f288_16 rfl ?_
  exact ⟨h1, p, rfl⟩
theorem wF288_0 {x0 : Int} (hc : Rn (ev 88 0 [AR 1, AI x0] [] (KS r d, h, R)) (fun o => ∃ h1, P h1 ∧ o = (.inr 0, bump (KS r d, h1, R)))) : Rn (ev 288 0 [AR 1, AI x0, AR 282, AU] [] (KS r d, h, R)) (fun o => ∃ h1, P h1 ∧ o = (.inl (AI 1), bump (KS r d, h1, R))) := by
  have k1 := @kd_1 r d
  have k282 := @kd_282 r d
  refine w_aloadn f288_0 rfl (by omega) ?_
  refine w_iconst (v := 0) f288_1 (by decide) ?_
  refine w_aloadn f288_2 rfl (by omega) ?_
  refine w_iloadn f288_3 rfl ?_
  refine w_qV f288_4 (Or.inl rfl) rfl (by omega) (okd_of (by assumption)) rfl ⟨Nat.le_of_ble_eq_true rfl, rfl, Nat.le_of_ble_eq_true rfl⟩ (en88 _ _) (hc) (fun o9 ho9 => ?_)
  obtain ⟨h1, p, rfl⟩ := ho9
  refine ⟨(.inl (AI 1), _), (show hnd 288 88 0 _ = _ from rfl), ?_⟩
  exact ⟨h1, p, rfl⟩
theorem wT289 {x0 : Int} (hc : Rn (ev 89 0 [AR 1, AI x0] [] (KS r d, h, R)) (fun o => ∃ h1, P h1 ∧ o = (.inl (AI v), (KS r d, h1, R)))) : Rn (ev 289 0 [AR 1, AI x0, AR 282, AU] [] (KS r d, h, R)) (fun o => ∃ h1, P h1 ∧ o = (.inl (AI 0), (KS r d, hput h1 282 0 v, R))) := by
  have k1 := @kd_1 r d
  have k282 := @kd_282 r d
  refine w_aloadn f289_0 rfl (by omega) ?_
  refine w_iconst (v := 0) f289_1 (by decide) ?_
  refine w_aloadn f289_2 rfl (by omega) ?_
  refine w_iloadn f289_3 rfl ?_
  refine w_qV f289_4 (Or.inl rfl) rfl (by omega) (okd_of (by assumption)) rfl ⟨Nat.le_of_ble_eq_true rfl, rfl, Nat.le_of_ble_eq_true rfl⟩ (en89 _ _) (hc) (fun o9 ho9 => ?_)
  obtain ⟨h1, p, rfl⟩ := ho9
  refine w_bok (pv89 _ _) ?_
  refine w_i2l f289_7 ?_
  refine w_last f289_8 (by assumption) (by omega) ?_
  refine w_goto (t := 15) f289_9 (by decide) ?_
  refine w_iconst (v := 0) f289_15 (by decide) ?_
  refine w_iret f289_16 rfl ?_
  exact ⟨h1, p, rfl⟩
theorem wF289_0 {x0 : Int} (hc : Rn (ev 89 0 [AR 1, AI x0] [] (KS r d, h, R)) (fun o => ∃ h1, P h1 ∧ o = (.inr 0, bump (KS r d, h1, R)))) : Rn (ev 289 0 [AR 1, AI x0, AR 282, AU] [] (KS r d, h, R)) (fun o => ∃ h1, P h1 ∧ o = (.inl (AI 1), bump (KS r d, h1, R))) := by
  have k1 := @kd_1 r d
  have k282 := @kd_282 r d
  refine w_aloadn f289_0 rfl (by omega) ?_
  refine w_iconst (v := 0) f289_1 (by decide) ?_
  refine w_aloadn f289_2 rfl (by omega) ?_
  refine w_iloadn f289_3 rfl ?_
  refine w_qV f289_4 (Or.inl rfl) rfl (by omega) (okd_of (by assumption)) rfl ⟨Nat.le_of_ble_eq_true rfl, rfl, Nat.le_of_ble_eq_true rfl⟩ (en89 _ _) (hc) (fun o9 ho9 => ?_)
  obtain ⟨h1, p, rfl⟩ := ho9
  refine ⟨(.inl (AI 1), _), (show hnd 289 89 0 _ = _ from rfl), ?_⟩
  exact ⟨h1, p, rfl⟩
theorem wT290 {x0 : Int} (hc : Rn (ev 90 0 [AR 1, AI x0] [] (KS r d, h, R)) (fun o => ∃ h1, P h1 ∧ o = (.inl (AI v), (KS r d, h1, R)))) : Rn (ev 290 0 [AR 1, AI x0, AR 282, AU] [] (KS r d, h, R)) (fun o => ∃ h1, P h1 ∧ o = (.inl (AI 0), (KS r d, hput h1 282 0 v, R))) := by
  have k1 := @kd_1 r d
  have k282 := @kd_282 r d
  refine w_aloadn f290_0 rfl (by omega) ?_
  refine w_iconst (v := 0) f290_1 (by decide) ?_
  refine w_aloadn f290_2 rfl (by omega) ?_
  refine w_iloadn f290_3 rfl ?_
  refine w_qV f290_4 (Or.inl rfl) rfl (by omega) (okd_of (by assumption)) rfl ⟨Nat.le_of_ble_eq_true rfl, rfl, Nat.le_of_ble_eq_true rfl⟩ (en90 _ _) (hc) (fun o9 ho9 => ?_)
  obtain ⟨h1, p, rfl⟩ := ho9
  refine w_bok (pv90 _ _) ?_
  refine w_i2l f290_7 ?_
  refine w_last f290_8 (by assumption) (by omega) ?_
  refine w_goto (t := 15) f290_9 (by decide) ?_
  refine w_iconst (v := 0) f290_15 (by decide) ?_
  refine w_iret f290_16 rfl ?_
  exact ⟨h1, p, rfl⟩
theorem wF290_0 {x0 : Int} (hc : Rn (ev 90 0 [AR 1, AI x0] [] (KS r d, h, R)) (fun o => ∃ h1, P h1 ∧ o = (.inr 0, bump (KS r d, h1, R)))) : Rn (ev 290 0 [AR 1, AI x0, AR 282, AU] [] (KS r d, h, R)) (fun o => ∃ h1, P h1 ∧ o = (.inl (AI 1), bump (KS r d, h1, R))) := by
  have k1 := @kd_1 r d
  have k282 := @kd_282 r d
  refine w_aloadn f290_0 rfl (by omega) ?_
  refine w_iconst (v := 0) f290_1 (by decide) ?_
  refine w_aloadn f290_2 rfl (by omega) ?_
  refine w_iloadn f290_3 rfl ?_
  refine w_qV f290_4 (Or.inl rfl) rfl (by omega) (okd_of (by assumption)) rfl ⟨Nat.le_of_ble_eq_true rfl, rfl, Nat.le_of_ble_eq_true rfl⟩ (en90 _ _) (hc) (fun o9 ho9 => ?_)
  obtain ⟨h1, p, rfl⟩ := ho9
  refine ⟨(.inl (AI 1), _), (show hnd 290 90 0 _ = _ from rfl), ?_⟩
  exact ⟨h1, p, rfl⟩
theorem wT291 {x0 : Int} (hc : Rn (ev 91 0 [AR 1, AI x0] [] (KS r d, h, R)) (fun o => ∃ h1, P h1 ∧ o = (.inl (AI v), (KS r d, h1, R)))) : Rn (ev 291 0 [AR 1, AI x0, AR 282, AU] [] (KS r d, h, R)) (fun o => ∃ h1, P h1 ∧ o = (.inl (AI 0), (KS r d, hput h1 282 0 v, R))) := by
  have k1 := @kd_1 r d
  have k282 := @kd_282 r d
  refine w_aloadn f291_0 rfl (by omega) ?_
  refine w_iconst (v := 0) f291_1 (by decide) ?_
  refine w_aloadn f291_2 rfl (by omega) ?_
  refine w_iloadn f291_3 rfl ?_
  refine w_qV f291_4 (Or.inl rfl) rfl (by omega) (okd_of (by assumption)) rfl ⟨Nat.le_of_ble_eq_true rfl, rfl, Nat.le_of_ble_eq_true rfl⟩ (en91 _ _) (hc) (fun o9 ho9 => ?_)
  obtain ⟨h1, p, rfl⟩ := ho9
  refine w_bok (pv91 _ _) ?_
  refine w_i2l f291_7 ?_
  refine w_last f291_8 (by assumption) (by omega) ?_
  refine w_goto (t := 15) f291_9 (by decide) ?_
  refine w_iconst (v := 0) f291_15 (by decide) ?_
  refine w_iret f291_16 rfl ?_
  exact ⟨h1, p, rfl⟩
theorem wF291_0 {x0 : Int} (hc : Rn (ev 91 0 [AR 1, AI x0] [] (KS r d, h, R)) (fun o => ∃ h1, P h1 ∧ o = (.inr 0, bump (KS r d, h1, R)))) : Rn (ev 291 0 [AR 1, AI x0, AR 282, AU] [] (KS r d, h, R)) (fun o => ∃ h1, P h1 ∧ o = (.inl (AI 1), bump (KS r d, h1, R))) := by
  have k1 := @kd_1 r d
  have k282 := @kd_282 r d
  refine w_aloadn f291_0 rfl (by omega) ?_
  refine w_iconst (v := 0) f291_1 (by decide) ?_
  refine w_aloadn f291_2 rfl (by omega) ?_
  refine w_iloadn f291_3 rfl ?_
  refine w_qV f291_4 (Or.inl rfl) rfl (by omega) (okd_of (by assumption)) rfl ⟨Nat.le_of_ble_eq_true rfl, rfl, Nat.le_of_ble_eq_true rfl⟩ (en91 _ _) (hc) (fun o9 ho9 => ?_)
  obtain ⟨h1, p, rfl⟩ := ho9
  refine ⟨(.inl (AI 1), _), (show hnd 291 91 0 _ = _ from rfl), ?_⟩
  exact ⟨h1, p, rfl⟩
theorem wT292 {x0 : Int} (hc : Rn (ev 92 0 [AR 1, AI x0] [] (KS r d, h, R)) (fun o => ∃ h1, P h1 ∧ o = (.inl (AI v), (KS r d, h1, R)))) : Rn (ev 292 0 [AR 1, AI x0, AR 282, AU] [] (KS r d, h, R)) (fun o => ∃ h1, P h1 ∧ o = (.inl (AI 0), (KS r d, hput h1 282 0 v, R))) := by
  have k1 := @kd_1 r d
  have k282 := @kd_282 r d
  refine w_aloadn f292_0 rfl (by omega) ?_
  refine w_iconst (v := 0) f292_1 (by decide) ?_
  refine w_aloadn f292_2 rfl (by omega) ?_
  refine w_iloadn f292_3 rfl ?_
  refine w_qV f292_4 (Or.inl rfl) rfl (by omega) (okd_of (by assumption)) rfl ⟨Nat.le_of_ble_eq_true rfl, rfl, Nat.le_of_ble_eq_true rfl⟩ (en92 _ _) (hc) (fun o9 ho9 => ?_)
  obtain ⟨h1, p, rfl⟩ := ho9
  refine w_bok (pv92 _ _) ?_
  refine w_i2l f292_7 ?_
  refine w_last f292_8 (by assumption) (by omega) ?_
  refine w_goto (t := 15) f292_9 (by decide) ?_
  refine w_iconst (v := 0) f292_15 (by decide) ?_
  refine w_iret f292_16 rfl ?_
  exact ⟨h1, p, rfl⟩
theorem wF292_0 {x0 : Int} (hc : Rn (ev 92 0 [AR 1, AI x0] [] (KS r d, h, R)) (fun o => ∃ h1, P h1 ∧ o = (.inr 0, bump (KS r d, h1, R)))) : Rn (ev 292 0 [AR 1, AI x0, AR 282, AU] [] (KS r d, h, R)) (fun o => ∃ h1, P h1 ∧ o = (.inl (AI 1), bump (KS r d, h1, R))) := by
  have k1 := @kd_1 r d
  have k282 := @kd_282 r d
  refine w_aloadn f292_0 rfl (by omega) ?_
  refine w_iconst (v := 0) f292_1 (by decide) ?_
  refine w_aloadn f292_2 rfl (by omega) ?_
  refine w_iloadn f292_3 rfl ?_
  refine w_qV f292_4 (Or.inl rfl) rfl (by omega) (okd_of (by assumption)) rfl ⟨Nat.le_of_ble_eq_true rfl, rfl, Nat.le_of_ble_eq_true rfl⟩ (en92 _ _) (hc) (fun o9 ho9 => ?_)
  obtain ⟨h1, p, rfl⟩ := ho9
  refine ⟨(.inl (AI 1), _), (show hnd 292 92 0 _ = _ from rfl), ?_⟩
  exact ⟨h1, p, rfl⟩
theorem wT293 {x0 : Int} (hv : v = 0 ∨ v = 1) (hc : Rn (ev 93 0 [AR 1, AI x0] [] (KS r d, h, R)) (fun o => ∃ h1, P h1 ∧ o = (.inl (AI v), (KS r d, h1, R)))) : Rn (ev 293 0 [AR 1, AI x0, AR 282, AU] [] (KS r d, h, R)) (fun o => ∃ h1, P h1 ∧ o = (.inl (AI 0), (KS r d, hput h1 282 0 v, R))) := by
  have k1 := @kd_1 r d
  have k282 := @kd_282 r d
  refine w_aloadn f293_0 rfl (by omega) ?_
  refine w_iconst (v := 0) f293_1 (by decide) ?_
  refine w_aloadn f293_2 rfl (by omega) ?_
  refine w_iloadn f293_3 rfl ?_
  refine w_qV f293_4 (Or.inl rfl) rfl (by omega) (okd_of (by assumption)) rfl ⟨Nat.le_of_ble_eq_true rfl, rfl, Nat.le_of_ble_eq_true rfl⟩ (en93 _ _) (hc) (fun o9 ho9 => ?_)
  obtain ⟨h1, p, rfl⟩ := ho9
  refine w_bok (pv93 _ _) ?_
  refine w_if_eq (t := 14) f293_7 (by decide) (fun c1 => ?_) (fun c1 => ?_)
  · refine w_lconst (v := 0) f293_14 rfl ?_
    refine w_last f293_15 (by assumption) (by omega) ?_
    refine w_goto (t := 22) f293_16 (by decide) ?_
    refine w_iconst (v := 0) f293_22 (by decide) ?_
    refine w_iret f293_23 rfl ?_
    first | exact ⟨h1, p, by rw [show v = 1 by omega]; rfl⟩ | exact ⟨h1, p, by rw [show v = 0 by omega]; rfl⟩
  · refine w_lconst (v := 1) f293_10 rfl ?_
    refine w_goto (t := 15) f293_11 (by decide) ?_
    refine w_last f293_15 (by assumption) (by omega) ?_
    refine w_goto (t := 22) f293_16 (by decide) ?_
    refine w_iconst (v := 0) f293_22 (by decide) ?_
    refine w_iret f293_23 rfl ?_
    first | exact ⟨h1, p, by rw [show v = 1 by omega]; rfl⟩ | exact ⟨h1, p, by rw [show v = 0 by omega]; rfl⟩
theorem wF293_0 {x0 : Int} (hc : Rn (ev 93 0 [AR 1, AI x0] [] (KS r d, h, R)) (fun o => ∃ h1, P h1 ∧ o = (.inr 0, bump (KS r d, h1, R)))) : Rn (ev 293 0 [AR 1, AI x0, AR 282, AU] [] (KS r d, h, R)) (fun o => ∃ h1, P h1 ∧ o = (.inl (AI 1), bump (KS r d, h1, R))) := by
  have k1 := @kd_1 r d
  have k282 := @kd_282 r d
  refine w_aloadn f293_0 rfl (by omega) ?_
  refine w_iconst (v := 0) f293_1 (by decide) ?_
  refine w_aloadn f293_2 rfl (by omega) ?_
  refine w_iloadn f293_3 rfl ?_
  refine w_qV f293_4 (Or.inl rfl) rfl (by omega) (okd_of (by assumption)) rfl ⟨Nat.le_of_ble_eq_true rfl, rfl, Nat.le_of_ble_eq_true rfl⟩ (en93 _ _) (hc) (fun o9 ho9 => ?_)
  obtain ⟨h1, p, rfl⟩ := ho9
  refine ⟨(.inl (AI 1), _), (show hnd 293 93 0 _ = _ from rfl), ?_⟩
  exact ⟨h1, p, rfl⟩
theorem wT294 {x0 : Int} (hv : v = 0 ∨ v = 1) (hc : Rn (ev 94 0 [AR 1, AI x0] [] (KS r d, h, R)) (fun o => ∃ h1, P h1 ∧ o = (.inl (AI v), (KS r d, h1, R)))) : Rn (ev 294 0 [AR 1, AI x0, AR 282, AU] [] (KS r d, h, R)) (fun o => ∃ h1, P h1 ∧ o = (.inl (AI 0), (KS r d, hput h1 282 0 v, R))) := by
  have k1 := @kd_1 r d
  have k282 := @kd_282 r d
  refine w_aloadn f294_0 rfl (by omega) ?_
  refine w_iconst (v := 0) f294_1 (by decide) ?_
  refine w_aloadn f294_2 rfl (by omega) ?_
  refine w_iloadn f294_3 rfl ?_
  refine w_qV f294_4 (Or.inl rfl) rfl (by omega) (okd_of (by assumption)) rfl ⟨Nat.le_of_ble_eq_true rfl, rfl, Nat.le_of_ble_eq_true rfl⟩ (en94 _ _) (hc) (fun o9 ho9 => ?_)
  obtain ⟨h1, p, rfl⟩ := ho9
  refine w_bok (pv94 _ _) ?_
  refine w_if_eq (t := 14) f294_7 (by decide) (fun c1 => ?_) (fun c1 => ?_)
  · refine w_lconst (v := 0) f294_14 rfl ?_
    refine w_last f294_15 (by assumption) (by omega) ?_
    refine w_goto (t := 22) f294_16 (by decide) ?_
    refine w_iconst (v := 0) f294_22 (by decide) ?_
    refine w_iret f294_23 rfl ?_
    first | exact ⟨h1, p, by rw [show v = 1 by omega]; rfl⟩ | exact ⟨h1, p, by rw [show v = 0 by omega]; rfl⟩
  · refine w_lconst (v := 1) f294_10 rfl ?_
    refine w_goto (t := 15) f294_11 (by decide) ?_
    refine w_last f294_15 (by assumption) (by omega) ?_
    refine w_goto (t := 22) f294_16 (by decide) ?_
    refine w_iconst (v := 0) f294_22 (by decide) ?_
    refine w_iret f294_23 rfl ?_
    first | exact ⟨h1, p, by rw [show v = 1 by omega]; rfl⟩ | exact ⟨h1, p, by rw [show v = 0 by omega]; rfl⟩
theorem wF294_0 {x0 : Int} (hc : Rn (ev 94 0 [AR 1, AI x0] [] (KS r d, h, R)) (fun o => ∃ h1, P h1 ∧ o = (.inr 0, bump (KS r d, h1, R)))) : Rn (ev 294 0 [AR 1, AI x0, AR 282, AU] [] (KS r d, h, R)) (fun o => ∃ h1, P h1 ∧ o = (.inl (AI 1), bump (KS r d, h1, R))) := by
  have k1 := @kd_1 r d
  have k282 := @kd_282 r d
  refine w_aloadn f294_0 rfl (by omega) ?_
  refine w_iconst (v := 0) f294_1 (by decide) ?_
  refine w_aloadn f294_2 rfl (by omega) ?_
  refine w_iloadn f294_3 rfl ?_
  refine w_qV f294_4 (Or.inl rfl) rfl (by omega) (okd_of (by assumption)) rfl ⟨Nat.le_of_ble_eq_true rfl, rfl, Nat.le_of_ble_eq_true rfl⟩ (en94 _ _) (hc) (fun o9 ho9 => ?_)
  obtain ⟨h1, p, rfl⟩ := ho9
  refine ⟨(.inl (AI 1), _), (show hnd 294 94 0 _ = _ from rfl), ?_⟩
  exact ⟨h1, p, rfl⟩
theorem wT295 {x0 : Int} (hc : Rn (ev 95 0 [AR 1, AI x0] [] (KS r d, h, R)) (fun o => ∃ h1, P h1 ∧ o = (.inl (AI v), (KS r d, h1, R)))) : Rn (ev 295 0 [AR 1, AI x0, AR 282, AU] [] (KS r d, h, R)) (fun o => ∃ h1, P h1 ∧ o = (.inl (AI 0), (KS r d, hput h1 282 0 v, R))) := by
  have k1 := @kd_1 r d
  have k282 := @kd_282 r d
  refine w_aloadn f295_0 rfl (by omega) ?_
  refine w_iconst (v := 0) f295_1 (by decide) ?_
  refine w_aloadn f295_2 rfl (by omega) ?_
  refine w_iloadn f295_3 rfl ?_
  refine w_qV f295_4 (Or.inl rfl) rfl (by omega) (okd_of (by assumption)) rfl ⟨Nat.le_of_ble_eq_true rfl, rfl, Nat.le_of_ble_eq_true rfl⟩ (en95 _ _) (hc) (fun o9 ho9 => ?_)
  obtain ⟨h1, p, rfl⟩ := ho9
  refine w_bok (pv95 _ _) ?_
  refine w_i2l f295_7 ?_
  refine w_last f295_8 (by assumption) (by omega) ?_
  refine w_goto (t := 15) f295_9 (by decide) ?_
  refine w_iconst (v := 0) f295_15 (by decide) ?_
  refine w_iret f295_16 rfl ?_
  exact ⟨h1, p, rfl⟩
theorem wF295_0 {x0 : Int} (hc : Rn (ev 95 0 [AR 1, AI x0] [] (KS r d, h, R)) (fun o => ∃ h1, P h1 ∧ o = (.inr 0, bump (KS r d, h1, R)))) : Rn (ev 295 0 [AR 1, AI x0, AR 282, AU] [] (KS r d, h, R)) (fun o => ∃ h1, P h1 ∧ o = (.inl (AI 1), bump (KS r d, h1, R))) := by
  have k1 := @kd_1 r d
  have k282 := @kd_282 r d
  refine w_aloadn f295_0 rfl (by omega) ?_
  refine w_iconst (v := 0) f295_1 (by decide) ?_
  refine w_aloadn f295_2 rfl (by omega) ?_
  refine w_iloadn f295_3 rfl ?_
  refine w_qV f295_4 (Or.inl rfl) rfl (by omega) (okd_of (by assumption)) rfl ⟨Nat.le_of_ble_eq_true rfl, rfl, Nat.le_of_ble_eq_true rfl⟩ (en95 _ _) (hc) (fun o9 ho9 => ?_)
  obtain ⟨h1, p, rfl⟩ := ho9
  refine ⟨(.inl (AI 1), _), (show hnd 295 95 0 _ = _ from rfl), ?_⟩
  exact ⟨h1, p, rfl⟩
theorem wT296 {x0 : Int} (hv : v = 0 ∨ v = 1) (hc : Rn (ev 96 0 [AR 1, AI x0] [] (KS r d, h, R)) (fun o => ∃ h1, P h1 ∧ o = (.inl (AI v), (KS r d, h1, R)))) : Rn (ev 296 0 [AR 1, AI x0, AR 282, AU] [] (KS r d, h, R)) (fun o => ∃ h1, P h1 ∧ o = (.inl (AI 0), (KS r d, hput h1 282 0 v, R))) := by
  have k1 := @kd_1 r d
  have k282 := @kd_282 r d
  refine w_aloadn f296_0 rfl (by omega) ?_
  refine w_iconst (v := 0) f296_1 (by decide) ?_
  refine w_aloadn f296_2 rfl (by omega) ?_
  refine w_iloadn f296_3 rfl ?_
  refine w_qV f296_4 (Or.inl rfl) rfl (by omega) (okd_of (by assumption)) rfl ⟨Nat.le_of_ble_eq_true rfl, rfl, Nat.le_of_ble_eq_true rfl⟩ (en96 _ _) (hc) (fun o9 ho9 => ?_)
  obtain ⟨h1, p, rfl⟩ := ho9
  refine w_bok (pv96 _ _) ?_
  refine w_if_eq (t := 14) f296_7 (by decide) (fun c1 => ?_) (fun c1 => ?_)
  · refine w_lconst (v := 0) f296_14 rfl ?_
    refine w_last f296_15 (by assumption) (by omega) ?_
    refine w_goto (t := 22) f296_16 (by decide) ?_
    refine w_iconst (v := 0) f296_22 (by decide) ?_
    refine w_iret f296_23 rfl ?_
    first | exact ⟨h1, p, by rw [show v = 1 by omega]; rfl⟩ | exact ⟨h1, p, by rw [show v = 0 by omega]; rfl⟩
  · refine w_lconst (v := 1) f296_10 rfl ?_
    refine w_goto (t := 15) f296_11 (by decide) ?_
    refine w_last f296_15 (by assumption) (by omega) ?_
    refine w_goto (t := 22) f296_16 (by decide) ?_
    refine w_iconst (v := 0) f296_22 (by decide) ?_
    refine w_iret f296_23 rfl ?_
    first | exact ⟨h1, p, by rw [show v = 1 by omega]; rfl⟩ | exact ⟨h1, p, by rw [show v = 0 by omega]; rfl⟩
theorem wF296_0 {x0 : Int} (hc : Rn (ev 96 0 [AR 1, AI x0] [] (KS r d, h, R)) (fun o => ∃ h1, P h1 ∧ o = (.inr 0, bump (KS r d, h1, R)))) : Rn (ev 296 0 [AR 1, AI x0, AR 282, AU] [] (KS r d, h, R)) (fun o => ∃ h1, P h1 ∧ o = (.inl (AI 1), bump (KS r d, h1, R))) := by
  have k1 := @kd_1 r d
  have k282 := @kd_282 r d
  refine w_aloadn f296_0 rfl (by omega) ?_
  refine w_iconst (v := 0) f296_1 (by decide) ?_
  refine w_aloadn f296_2 rfl (by omega) ?_
  refine w_iloadn f296_3 rfl ?_
  refine w_qV f296_4 (Or.inl rfl) rfl (by omega) (okd_of (by assumption)) rfl ⟨Nat.le_of_ble_eq_true rfl, rfl, Nat.le_of_ble_eq_true rfl⟩ (en96 _ _) (hc) (fun o9 ho9 => ?_)
  obtain ⟨h1, p, rfl⟩ := ho9
  refine ⟨(.inl (AI 1), _), (show hnd 296 96 0 _ = _ from rfl), ?_⟩
  exact ⟨h1, p, rfl⟩
theorem wT297 {x0 : Int} (hc : Rn (ev 97 0 [AR 1, AI x0] [] (KS r d, h, R)) (fun o => ∃ h1, P h1 ∧ o = (.inl (AI v), (KS r d, h1, R)))) : Rn (ev 297 0 [AR 1, AI x0, AR 282, AU] [] (KS r d, h, R)) (fun o => ∃ h1, P h1 ∧ o = (.inl (AI 0), (KS r d, hput h1 282 0 v, R))) := by
  have k1 := @kd_1 r d
  have k282 := @kd_282 r d
  refine w_aloadn f297_0 rfl (by omega) ?_
  refine w_iconst (v := 0) f297_1 (by decide) ?_
  refine w_aloadn f297_2 rfl (by omega) ?_
  refine w_iloadn f297_3 rfl ?_
  refine w_qV f297_4 (Or.inl rfl) rfl (by omega) (okd_of (by assumption)) rfl ⟨Nat.le_of_ble_eq_true rfl, rfl, Nat.le_of_ble_eq_true rfl⟩ (en97 _ _) (hc) (fun o9 ho9 => ?_)
  obtain ⟨h1, p, rfl⟩ := ho9
  refine w_bok (pv97 _ _) ?_
  refine w_i2l f297_7 ?_
  refine w_last f297_8 (by assumption) (by omega) ?_
  refine w_goto (t := 15) f297_9 (by decide) ?_
  refine w_iconst (v := 0) f297_15 (by decide) ?_
  refine w_iret f297_16 rfl ?_
  exact ⟨h1, p, rfl⟩
theorem wF297_0 {x0 : Int} (hc : Rn (ev 97 0 [AR 1, AI x0] [] (KS r d, h, R)) (fun o => ∃ h1, P h1 ∧ o = (.inr 0, bump (KS r d, h1, R)))) : Rn (ev 297 0 [AR 1, AI x0, AR 282, AU] [] (KS r d, h, R)) (fun o => ∃ h1, P h1 ∧ o = (.inl (AI 1), bump (KS r d, h1, R))) := by
  have k1 := @kd_1 r d
  have k282 := @kd_282 r d
  refine w_aloadn f297_0 rfl (by omega) ?_
  refine w_iconst (v := 0) f297_1 (by decide) ?_
  refine w_aloadn f297_2 rfl (by omega) ?_
  refine w_iloadn f297_3 rfl ?_
  refine w_qV f297_4 (Or.inl rfl) rfl (by omega) (okd_of (by assumption)) rfl ⟨Nat.le_of_ble_eq_true rfl, rfl, Nat.le_of_ble_eq_true rfl⟩ (en97 _ _) (hc) (fun o9 ho9 => ?_)
  obtain ⟨h1, p, rfl⟩ := ho9
  refine ⟨(.inl (AI 1), _), (show hnd 297 97 0 _ = _ from rfl), ?_⟩
  exact ⟨h1, p, rfl⟩
theorem wT298 {x0 : Int} (hc : Rn (ev 98 0 [AR 1, AI x0] [] (KS r d, h, R)) (fun o => ∃ h1, P h1 ∧ o = (.inl (AI v), (KS r d, h1, R)))) : Rn (ev 298 0 [AR 1, AI x0, AR 282, AU] [] (KS r d, h, R)) (fun o => ∃ h1, P h1 ∧ o = (.inl (AI 0), (KS r d, hput h1 282 0 v, R))) := by
  have k1 := @kd_1 r d
  have k282 := @kd_282 r d
  refine w_aloadn f298_0 rfl (by omega) ?_
  refine w_iconst (v := 0) f298_1 (by decide) ?_
  refine w_aloadn f298_2 rfl (by omega) ?_
  refine w_iloadn f298_3 rfl ?_
  refine w_qV f298_4 (Or.inl rfl) rfl (by omega) (okd_of (by assumption)) rfl ⟨Nat.le_of_ble_eq_true rfl, rfl, Nat.le_of_ble_eq_true rfl⟩ (en98 _ _) (hc) (fun o9 ho9 => ?_)
  obtain ⟨h1, p, rfl⟩ := ho9
  refine w_bok (pv98 _ _) ?_
  refine w_i2l f298_7 ?_
  refine w_last f298_8 (by assumption) (by omega) ?_
  refine w_goto (t := 15) f298_9 (by decide) ?_
  refine w_iconst (v := 0) f298_15 (by decide) ?_
  refine w_iret f298_16 rfl ?_
  exact ⟨h1, p, rfl⟩
theorem wF298_0 {x0 : Int} (hc : Rn (ev 98 0 [AR 1, AI x0] [] (KS r d, h, R)) (fun o => ∃ h1, P h1 ∧ o = (.inr 0, bump (KS r d, h1, R)))) : Rn (ev 298 0 [AR 1, AI x0, AR 282, AU] [] (KS r d, h, R)) (fun o => ∃ h1, P h1 ∧ o = (.inl (AI 1), bump (KS r d, h1, R))) := by
  have k1 := @kd_1 r d
  have k282 := @kd_282 r d
  refine w_aloadn f298_0 rfl (by omega) ?_
  refine w_iconst (v := 0) f298_1 (by decide) ?_
  refine w_aloadn f298_2 rfl (by omega) ?_
  refine w_iloadn f298_3 rfl ?_
  refine w_qV f298_4 (Or.inl rfl) rfl (by omega) (okd_of (by assumption)) rfl ⟨Nat.le_of_ble_eq_true rfl, rfl, Nat.le_of_ble_eq_true rfl⟩ (en98 _ _) (hc) (fun o9 ho9 => ?_)
  obtain ⟨h1, p, rfl⟩ := ho9
  refine ⟨(.inl (AI 1), _), (show hnd 298 98 0 _ = _ from rfl), ?_⟩
  exact ⟨h1, p, rfl⟩
theorem wT299 {x0 : Int} (hc : Rn (ev 99 0 [AR 1, AI x0] [] (KS r d, h, R)) (fun o => ∃ h1, P h1 ∧ o = (.inl (AI v), (KS r d, h1, R)))) : Rn (ev 299 0 [AR 1, AI x0, AR 282, AU] [] (KS r d, h, R)) (fun o => ∃ h1, P h1 ∧ o = (.inl (AI 0), (KS r d, hput h1 282 0 v, R))) := by
  have k1 := @kd_1 r d
  have k282 := @kd_282 r d
  refine w_aloadn f299_0 rfl (by omega) ?_
  refine w_iconst (v := 0) f299_1 (by decide) ?_
  refine w_aloadn f299_2 rfl (by omega) ?_
  refine w_iloadn f299_3 rfl ?_
  refine w_qV f299_4 (Or.inl rfl) rfl (by omega) (okd_of (by assumption)) rfl ⟨Nat.le_of_ble_eq_true rfl, rfl, Nat.le_of_ble_eq_true rfl⟩ (en99 _ _) (hc) (fun o9 ho9 => ?_)
  obtain ⟨h1, p, rfl⟩ := ho9
  refine w_bok (pv99 _ _) ?_
  refine w_i2l f299_7 ?_
  refine w_last f299_8 (by assumption) (by omega) ?_
  refine w_goto (t := 15) f299_9 (by decide) ?_
  refine w_iconst (v := 0) f299_15 (by decide) ?_
  refine w_iret f299_16 rfl ?_
  exact ⟨h1, p, rfl⟩
theorem wF299_0 {x0 : Int} (hc : Rn (ev 99 0 [AR 1, AI x0] [] (KS r d, h, R)) (fun o => ∃ h1, P h1 ∧ o = (.inr 0, bump (KS r d, h1, R)))) : Rn (ev 299 0 [AR 1, AI x0, AR 282, AU] [] (KS r d, h, R)) (fun o => ∃ h1, P h1 ∧ o = (.inl (AI 1), bump (KS r d, h1, R))) := by
  have k1 := @kd_1 r d
  have k282 := @kd_282 r d
  refine w_aloadn f299_0 rfl (by omega) ?_
  refine w_iconst (v := 0) f299_1 (by decide) ?_
  refine w_aloadn f299_2 rfl (by omega) ?_
  refine w_iloadn f299_3 rfl ?_
  refine w_qV f299_4 (Or.inl rfl) rfl (by omega) (okd_of (by assumption)) rfl ⟨Nat.le_of_ble_eq_true rfl, rfl, Nat.le_of_ble_eq_true rfl⟩ (en99 _ _) (hc) (fun o9 ho9 => ?_)
  obtain ⟨h1, p, rfl⟩ := ho9
  refine ⟨(.inl (AI 1), _), (show hnd 299 99 0 _ = _ from rfl), ?_⟩
  exact ⟨h1, p, rfl⟩
theorem wT300 {x0 : Int} (hc : Rn (ev 101 0 [AR 1, AI x0] [] (KS r d, h, R)) (fun o => ∃ h1, P h1 ∧ o = (.inl (AI v), (KS r d, h1, R)))) : Rn (ev 300 0 [AR 1, AI x0, AR 282, AU] [] (KS r d, h, R)) (fun o => ∃ h1, P h1 ∧ o = (.inl (AI 0), (KS r d, hput h1 282 0 v, R))) := by
  have k1 := @kd_1 r d
  have k282 := @kd_282 r d
  refine w_aloadn f300_0 rfl (by omega) ?_
  refine w_iconst (v := 0) f300_1 (by decide) ?_
  refine w_aloadn f300_2 rfl (by omega) ?_
  refine w_iloadn f300_3 rfl ?_
  refine w_qV f300_4 (Or.inl rfl) rfl (by omega) (okd_of (by assumption)) rfl ⟨Nat.le_of_ble_eq_true rfl, rfl, Nat.le_of_ble_eq_true rfl⟩ (en101 _ _) (hc) (fun o9 ho9 => ?_)
  obtain ⟨h1, p, rfl⟩ := ho9
  refine w_bok (pv101 _ _) ?_
  refine w_i2l f300_7 ?_
  refine w_last f300_8 (by assumption) (by omega) ?_
  refine w_goto (t := 15) f300_9 (by decide) ?_
  refine w_iconst (v := 0) f300_15 (by decide) ?_
  refine w_iret f300_16 rfl ?_
  exact ⟨h1, p, rfl⟩
theorem wF300_0 {x0 : Int} (hc : Rn (ev 101 0 [AR 1, AI x0] [] (KS r d, h, R)) (fun o => ∃ h1, P h1 ∧ o = (.inr 0, bump (KS r d, h1, R)))) : Rn (ev 300 0 [AR 1, AI x0, AR 282, AU] [] (KS r d, h, R)) (fun o => ∃ h1, P h1 ∧ o = (.inl (AI 1), bump (KS r d, h1, R))) := by
  have k1 := @kd_1 r d
  have k282 := @kd_282 r d
  refine w_aloadn f300_0 rfl (by omega) ?_
  refine w_iconst (v := 0) f300_1 (by decide) ?_
  refine w_aloadn f300_2 rfl (by omega) ?_
  refine w_iloadn f300_3 rfl ?_
  refine w_qV f300_4 (Or.inl rfl) rfl (by omega) (okd_of (by assumption)) rfl ⟨Nat.le_of_ble_eq_true rfl, rfl, Nat.le_of_ble_eq_true rfl⟩ (en101 _ _) (hc) (fun o9 ho9 => ?_)
  obtain ⟨h1, p, rfl⟩ := ho9
  refine ⟨(.inl (AI 1), _), (show hnd 300 101 0 _ = _ from rfl), ?_⟩
  exact ⟨h1, p, rfl⟩
theorem wT301 {x0 : Int} (hc : Rn (ev 102 0 [AR 1, AI x0] [] (KS r d, h, R)) (fun o => ∃ h1, P h1 ∧ o = (.inl (AI v), (KS r d, h1, R)))) : Rn (ev 301 0 [AR 1, AI x0, AR 282, AU] [] (KS r d, h, R)) (fun o => ∃ h1, P h1 ∧ o = (.inl (AI 0), (KS r d, hput h1 282 0 v, R))) := by
  have k1 := @kd_1 r d
  have k282 := @kd_282 r d
  refine w_aloadn f301_0 rfl (by omega) ?_
  refine w_iconst (v := 0) f301_1 (by decide) ?_
  refine w_aloadn f301_2 rfl (by omega) ?_
  refine w_iloadn f301_3 rfl ?_
  refine w_qV f301_4 (Or.inl rfl) rfl (by omega) (okd_of (by assumption)) rfl ⟨Nat.le_of_ble_eq_true rfl, rfl, Nat.le_of_ble_eq_true rfl⟩ (en102 _ _) (hc) (fun o9 ho9 => ?_)
  obtain ⟨h1, p, rfl⟩ := ho9
  refine w_bok (pv102 _ _) ?_
  refine w_i2l f301_7 ?_
  refine w_last f301_8 (by assumption) (by omega) ?_
  refine w_goto (t := 15) f301_9 (by decide) ?_
  refine w_iconst (v := 0) f301_15 (by decide) ?_
  refine w_iret f301_16 rfl ?_
  exact ⟨h1, p, rfl⟩
theorem wF301_0 {x0 : Int} (hc : Rn (ev 102 0 [AR 1, AI x0] [] (KS r d, h, R)) (fun o => ∃ h1, P h1 ∧ o = (.inr 0, bump (KS r d, h1, R)))) : Rn (ev 301 0 [AR 1, AI x0, AR 282, AU] [] (KS r d, h, R)) (fun o => ∃ h1, P h1 ∧ o = (.inl (AI 1), bump (KS r d, h1, R))) := by
  have k1 := @kd_1 r d
  have k282 := @kd_282 r d
  refine w_aloadn f301_0 rfl (by omega) ?_
  refine w_iconst (v := 0) f301_1 (by decide) ?_
  refine w_aloadn f301_2 rfl (by omega) ?_
  refine w_iloadn f301_3 rfl ?_
  refine w_qV f301_4 (Or.inl rfl) rfl (by omega) (okd_of (by assumption)) rfl ⟨Nat.le_of_ble_eq_true rfl, rfl, Nat.le_of_ble_eq_true rfl⟩ (en102 _ _) (hc) (fun o9 ho9 => ?_)
  obtain ⟨h1, p, rfl⟩ := ho9
  refine ⟨(.inl (AI 1), _), (show hnd 301 102 0 _ = _ from rfl), ?_⟩
  exact ⟨h1, p, rfl⟩
theorem wT302 {x0 : Int} (hc : Rn (ev 105 0 [AR 1, AI x0] [] (KS r d, h, R)) (fun o => ∃ h1, P h1 ∧ o = (.inl (AI v), (KS r d, h1, R)))) : Rn (ev 302 0 [AR 1, AI x0, AR 282, AU] [] (KS r d, h, R)) (fun o => ∃ h1, P h1 ∧ o = (.inl (AI 0), (KS r d, hput h1 282 0 v, R))) := by
  have k1 := @kd_1 r d
  have k282 := @kd_282 r d
  refine w_aloadn f302_0 rfl (by omega) ?_
  refine w_iconst (v := 0) f302_1 (by decide) ?_
  refine w_aloadn f302_2 rfl (by omega) ?_
  refine w_iloadn f302_3 rfl ?_
  refine w_qV f302_4 (Or.inl rfl) rfl (by omega) (okd_of (by assumption)) rfl ⟨Nat.le_of_ble_eq_true rfl, rfl, Nat.le_of_ble_eq_true rfl⟩ (en105 _ _) (hc) (fun o9 ho9 => ?_)
  obtain ⟨h1, p, rfl⟩ := ho9
  refine w_bok (pv105 _ _) ?_
  refine w_i2l f302_7 ?_
  refine w_last f302_8 (by assumption) (by omega) ?_
  refine w_goto (t := 15) f302_9 (by decide) ?_
  refine w_iconst (v := 0) f302_15 (by decide) ?_
  refine w_iret f302_16 rfl ?_
  exact ⟨h1, p, rfl⟩
theorem wF302_1 {x0 : Int} (hc : Rn (ev 105 0 [AR 1, AI x0] [] (KS r d, h, R)) (fun o => ∃ h1, P h1 ∧ o = (.inr 1, bump (KS r d, h1, R)))) : Rn (ev 302 0 [AR 1, AI x0, AR 282, AU] [] (KS r d, h, R)) (fun o => ∃ h1, P h1 ∧ o = (.inl (AI 1), bump (KS r d, h1, R))) := by
  have k1 := @kd_1 r d
  have k282 := @kd_282 r d
  refine w_aloadn f302_0 rfl (by omega) ?_
  refine w_iconst (v := 0) f302_1 (by decide) ?_
  refine w_aloadn f302_2 rfl (by omega) ?_
  refine w_iloadn f302_3 rfl ?_
  refine w_qV f302_4 (Or.inl rfl) rfl (by omega) (okd_of (by assumption)) rfl ⟨Nat.le_of_ble_eq_true rfl, rfl, Nat.le_of_ble_eq_true rfl⟩ (en105 _ _) (hc) (fun o9 ho9 => ?_)
  obtain ⟨h1, p, rfl⟩ := ho9
  refine ⟨(.inl (AI 1), _), (show hnd 302 105 1 _ = _ from rfl), ?_⟩
  exact ⟨h1, p, rfl⟩
theorem wT303 {x0 : Int} (hv : v = 0 ∨ v = 1) (hc : Rn (ev 114 0 [AR 1, AI x0] [] (KS r d, h, R)) (fun o => ∃ h1, P h1 ∧ o = (.inl (AI v), (KS r d, h1, R)))) : Rn (ev 303 0 [AR 1, AI x0, AR 282, AU] [] (KS r d, h, R)) (fun o => ∃ h1, P h1 ∧ o = (.inl (AI 0), (KS r d, hput h1 282 0 v, R))) := by
  have k1 := @kd_1 r d
  have k282 := @kd_282 r d
  refine w_aloadn f303_0 rfl (by omega) ?_
  refine w_iconst (v := 0) f303_1 (by decide) ?_
  refine w_aloadn f303_2 rfl (by omega) ?_
  refine w_iloadn f303_3 rfl ?_
  refine w_qV f303_4 (Or.inl rfl) rfl (by omega) (okd_of (by assumption)) rfl ⟨Nat.le_of_ble_eq_true rfl, rfl, Nat.le_of_ble_eq_true rfl⟩ (en114 _ _) (hc) (fun o9 ho9 => ?_)
  obtain ⟨h1, p, rfl⟩ := ho9
  refine w_bok (pv114 _ _) ?_
  refine w_if_eq (t := 14) f303_7 (by decide) (fun c1 => ?_) (fun c1 => ?_)
  · refine w_lconst (v := 0) f303_14 rfl ?_
    refine w_last f303_15 (by assumption) (by omega) ?_
    refine w_goto (t := 22) f303_16 (by decide) ?_
    refine w_iconst (v := 0) f303_22 (by decide) ?_
    refine w_iret f303_23 rfl ?_
    first | exact ⟨h1, p, by rw [show v = 1 by omega]; rfl⟩ | exact ⟨h1, p, by rw [show v = 0 by omega]; rfl⟩
  · refine w_lconst (v := 1) f303_10 rfl ?_
    refine w_goto (t := 15) f303_11 (by decide) ?_
    refine w_last f303_15 (by assumption) (by omega) ?_
    refine w_goto (t := 22) f303_16 (by decide) ?_
    refine w_iconst (v := 0) f303_22 (by decide) ?_
    refine w_iret f303_23 rfl ?_
    first | exact ⟨h1, p, by rw [show v = 1 by omega]; rfl⟩ | exact ⟨h1, p, by rw [show v = 0 by omega]; rfl⟩
theorem wF303_0 {x0 : Int} (hc : Rn (ev 114 0 [AR 1, AI x0] [] (KS r d, h, R)) (fun o => ∃ h1, P h1 ∧ o = (.inr 0, bump (KS r d, h1, R)))) : Rn (ev 303 0 [AR 1, AI x0, AR 282, AU] [] (KS r d, h, R)) (fun o => ∃ h1, P h1 ∧ o = (.inl (AI 1), bump (KS r d, h1, R))) := by
  have k1 := @kd_1 r d
  have k282 := @kd_282 r d
  refine w_aloadn f303_0 rfl (by omega) ?_
  refine w_iconst (v := 0) f303_1 (by decide) ?_
  refine w_aloadn f303_2 rfl (by omega) ?_
  refine w_iloadn f303_3 rfl ?_
  refine w_qV f303_4 (Or.inl rfl) rfl (by omega) (okd_of (by assumption)) rfl ⟨Nat.le_of_ble_eq_true rfl, rfl, Nat.le_of_ble_eq_true rfl⟩ (en114 _ _) (hc) (fun o9 ho9 => ?_)
  obtain ⟨h1, p, rfl⟩ := ho9
  refine ⟨(.inl (AI 1), _), (show hnd 303 114 0 _ = _ from rfl), ?_⟩
  exact ⟨h1, p, rfl⟩
theorem wT304 {x0 : Int} (hv : v = 0 ∨ v = 1) (hc : Rn (ev 115 0 [AR 1, AI x0] [] (KS r d, h, R)) (fun o => ∃ h1, P h1 ∧ o = (.inl (AI v), (KS r d, h1, R)))) : Rn (ev 304 0 [AR 1, AI x0, AR 282, AU] [] (KS r d, h, R)) (fun o => ∃ h1, P h1 ∧ o = (.inl (AI 0), (KS r d, hput h1 282 0 v, R))) := by
  have k1 := @kd_1 r d
  have k282 := @kd_282 r d
  refine w_aloadn f304_0 rfl (by omega) ?_
  refine w_iconst (v := 0) f304_1 (by decide) ?_
  refine w_aloadn f304_2 rfl (by omega) ?_
  refine w_iloadn f304_3 rfl ?_
  refine w_qV f304_4 (Or.inl rfl) rfl (by omega) (okd_of (by assumption)) rfl ⟨Nat.le_of_ble_eq_true rfl, rfl, Nat.le_of_ble_eq_true rfl⟩ (en115 _ _) (hc) (fun o9 ho9 => ?_)
  obtain ⟨h1, p, rfl⟩ := ho9
  refine w_bok (pv115 _ _) ?_
  refine w_if_eq (t := 14) f304_7 (by decide) (fun c1 => ?_) (fun c1 => ?_)
  · refine w_lconst (v := 0) f304_14 rfl ?_
    refine w_last f304_15 (by assumption) (by omega) ?_
    refine w_goto (t := 22) f304_16 (by decide) ?_
    refine w_iconst (v := 0) f304_22 (by decide) ?_
    refine w_iret f304_23 rfl ?_
    first | exact ⟨h1, p, by rw [show v = 1 by omega]; rfl⟩ | exact ⟨h1, p, by rw [show v = 0 by omega]; rfl⟩
  · refine w_lconst (v := 1) f304_10 rfl ?_
    refine w_goto (t := 15) f304_11 (by decide) ?_
    refine w_last f304_15 (by assumption) (by omega) ?_
    refine w_goto (t := 22) f304_16 (by decide) ?_
    refine w_iconst (v := 0) f304_22 (by decide) ?_
    refine w_iret f304_23 rfl ?_
    first | exact ⟨h1, p, by rw [show v = 1 by omega]; rfl⟩ | exact ⟨h1, p, by rw [show v = 0 by omega]; rfl⟩
theorem wF304_0 {x0 : Int} (hc : Rn (ev 115 0 [AR 1, AI x0] [] (KS r d, h, R)) (fun o => ∃ h1, P h1 ∧ o = (.inr 0, bump (KS r d, h1, R)))) : Rn (ev 304 0 [AR 1, AI x0, AR 282, AU] [] (KS r d, h, R)) (fun o => ∃ h1, P h1 ∧ o = (.inl (AI 1), bump (KS r d, h1, R))) := by
  have k1 := @kd_1 r d
  have k282 := @kd_282 r d
  refine w_aloadn f304_0 rfl (by omega) ?_
  refine w_iconst (v := 0) f304_1 (by decide) ?_
  refine w_aloadn f304_2 rfl (by omega) ?_
  refine w_iloadn f304_3 rfl ?_
  refine w_qV f304_4 (Or.inl rfl) rfl (by omega) (okd_of (by assumption)) rfl ⟨Nat.le_of_ble_eq_true rfl, rfl, Nat.le_of_ble_eq_true rfl⟩ (en115 _ _) (hc) (fun o9 ho9 => ?_)
  obtain ⟨h1, p, rfl⟩ := ho9
  refine ⟨(.inl (AI 1), _), (show hnd 304 115 0 _ = _ from rfl), ?_⟩
  exact ⟨h1, p, rfl⟩
theorem wT305 {x0 : Int} (hc : Rn (ev 116 0 [AR 1, AI x0] [] (KS r d, h, R)) (fun o => ∃ h1, P h1 ∧ o = (.inl (AI v), (KS r d, h1, R)))) : Rn (ev 305 0 [AR 1, AI x0, AR 282, AU] [] (KS r d, h, R)) (fun o => ∃ h1, P h1 ∧ o = (.inl (AI 0), (KS r d, hput h1 282 0 v, R))) := by
  have k1 := @kd_1 r d
  have k282 := @kd_282 r d
  refine w_aloadn f305_0 rfl (by omega) ?_
  refine w_iconst (v := 0) f305_1 (by decide) ?_
  refine w_aloadn f305_2 rfl (by omega) ?_
  refine w_iloadn f305_3 rfl ?_
  refine w_qV f305_4 (Or.inl rfl) rfl (by omega) (okd_of (by assumption)) rfl ⟨Nat.le_of_ble_eq_true rfl, rfl, Nat.le_of_ble_eq_true rfl⟩ (en116 _ _) (hc) (fun o9 ho9 => ?_)
  obtain ⟨h1, p, rfl⟩ := ho9
  refine w_bok (pv116 _ _) ?_
  refine w_i2l f305_7 ?_
  refine w_last f305_8 (by assumption) (by omega) ?_
  refine w_goto (t := 15) f305_9 (by decide) ?_
  refine w_iconst (v := 0) f305_15 (by decide) ?_
  refine w_iret f305_16 rfl ?_
  exact ⟨h1, p, rfl⟩
theorem wF305_0 {x0 : Int} (hc : Rn (ev 116 0 [AR 1, AI x0] [] (KS r d, h, R)) (fun o => ∃ h1, P h1 ∧ o = (.inr 0, bump (KS r d, h1, R)))) : Rn (ev 305 0 [AR 1, AI x0, AR 282, AU] [] (KS r d, h, R)) (fun o => ∃ h1, P h1 ∧ o = (.inl (AI 1), bump (KS r d, h1, R))) := by
  have k1 := @kd_1 r d
  have k282 := @kd_282 r d
  refine w_aloadn f305_0 rfl (by omega) ?_
  refine w_iconst (v := 0) f305_1 (by decide) ?_
  refine w_aloadn f305_2 rfl (by omega) ?_
  refine w_iloadn f305_3 rfl ?_
  refine w_qV f305_4 (Or.inl rfl) rfl (by omega) (okd_of (by assumption)) rfl ⟨Nat.le_of_ble_eq_true rfl, rfl, Nat.le_of_ble_eq_true rfl⟩ (en116 _ _) (hc) (fun o9 ho9 => ?_)
  obtain ⟨h1, p, rfl⟩ := ho9
  refine ⟨(.inl (AI 1), _), (show hnd 305 116 0 _ = _ from rfl), ?_⟩
  exact ⟨h1, p, rfl⟩
theorem wT306 {x0 : Int} (hc : Rn (ev 117 0 [AR 1, AI x0] [] (KS r d, h, R)) (fun o => ∃ h1, P h1 ∧ o = (.inl (AI v), (KS r d, h1, R)))) : Rn (ev 306 0 [AR 1, AI x0, AR 282, AU] [] (KS r d, h, R)) (fun o => ∃ h1, P h1 ∧ o = (.inl (AI 0), (KS r d, hput h1 282 0 v, R))) := by
  have k1 := @kd_1 r d
  have k282 := @kd_282 r d
  refine w_aloadn f306_0 rfl (by omega) ?_
  refine w_iconst (v := 0) f306_1 (by decide) ?_
  refine w_aloadn f306_2 rfl (by omega) ?_
  refine w_iloadn f306_3 rfl ?_
  refine w_qV f306_4 (Or.inl rfl) rfl (by omega) (okd_of (by assumption)) rfl ⟨Nat.le_of_ble_eq_true rfl, rfl, Nat.le_of_ble_eq_true rfl⟩ (en117 _ _) (hc) (fun o9 ho9 => ?_)
  obtain ⟨h1, p, rfl⟩ := ho9
  refine w_bok (pv117 _ _) ?_
  refine w_i2l f306_7 ?_
  refine w_last f306_8 (by assumption) (by omega) ?_
  refine w_goto (t := 15) f306_9 (by decide) ?_
  refine w_iconst (v := 0) f306_15 (by decide) ?_
  refine w_iret f306_16 rfl ?_
  exact ⟨h1, p, rfl⟩
theorem wF306_0 {x0 : Int} (hc : Rn (ev 117 0 [AR 1, AI x0] [] (KS r d, h, R)) (fun o => ∃ h1, P h1 ∧ o = (.inr 0, bump (KS r d, h1, R)))) : Rn (ev 306 0 [AR 1, AI x0, AR 282, AU] [] (KS r d, h, R)) (fun o => ∃ h1, P h1 ∧ o = (.inl (AI 1), bump (KS r d, h1, R))) := by
  have k1 := @kd_1 r d
  have k282 := @kd_282 r d
  refine w_aloadn f306_0 rfl (by omega) ?_
  refine w_iconst (v := 0) f306_1 (by decide) ?_
  refine w_aloadn f306_2 rfl (by omega) ?_
  refine w_iloadn f306_3 rfl ?_
  refine w_qV f306_4 (Or.inl rfl) rfl (by omega) (okd_of (by assumption)) rfl ⟨Nat.le_of_ble_eq_true rfl, rfl, Nat.le_of_ble_eq_true rfl⟩ (en117 _ _) (hc) (fun o9 ho9 => ?_)
  obtain ⟨h1, p, rfl⟩ := ho9
  refine ⟨(.inl (AI 1), _), (show hnd 306 117 0 _ = _ from rfl), ?_⟩
  exact ⟨h1, p, rfl⟩
theorem wT307 {x0 : Int} (hc : Rn (ev 122 0 [AR 1, AI x0] [] (KS r d, h, R)) (fun o => ∃ h1, P h1 ∧ o = (.inl (AI v), (KS r d, h1, R)))) : Rn (ev 307 0 [AR 1, AI x0, AR 282, AU] [] (KS r d, h, R)) (fun o => ∃ h1, P h1 ∧ o = (.inl (AI 0), (KS r d, hput h1 282 0 v, R))) := by
  have k1 := @kd_1 r d
  have k282 := @kd_282 r d
  refine w_aloadn f307_0 rfl (by omega) ?_
  refine w_iconst (v := 0) f307_1 (by decide) ?_
  refine w_aloadn f307_2 rfl (by omega) ?_
  refine w_iloadn f307_3 rfl ?_
  refine w_qV f307_4 (Or.inl rfl) rfl (by omega) (okd_of (by assumption)) rfl ⟨Nat.le_of_ble_eq_true rfl, rfl, Nat.le_of_ble_eq_true rfl⟩ (en122 _ _) (hc) (fun o9 ho9 => ?_)
  obtain ⟨h1, p, rfl⟩ := ho9
  refine w_bok (pv122 _ _) ?_
  refine w_i2l f307_7 ?_
  refine w_last f307_8 (by assumption) (by omega) ?_
  refine w_goto (t := 15) f307_9 (by decide) ?_
  refine w_iconst (v := 0) f307_15 (by decide) ?_
  refine w_iret f307_16 rfl ?_
  exact ⟨h1, p, rfl⟩
theorem wF307_0 {x0 : Int} (hc : Rn (ev 122 0 [AR 1, AI x0] [] (KS r d, h, R)) (fun o => ∃ h1, P h1 ∧ o = (.inr 0, bump (KS r d, h1, R)))) : Rn (ev 307 0 [AR 1, AI x0, AR 282, AU] [] (KS r d, h, R)) (fun o => ∃ h1, P h1 ∧ o = (.inl (AI 1), bump (KS r d, h1, R))) := by
  have k1 := @kd_1 r d
  have k282 := @kd_282 r d
  refine w_aloadn f307_0 rfl (by omega) ?_
  refine w_iconst (v := 0) f307_1 (by decide) ?_
  refine w_aloadn f307_2 rfl (by omega) ?_
  refine w_iloadn f307_3 rfl ?_
  refine w_qV f307_4 (Or.inl rfl) rfl (by omega) (okd_of (by assumption)) rfl ⟨Nat.le_of_ble_eq_true rfl, rfl, Nat.le_of_ble_eq_true rfl⟩ (en122 _ _) (hc) (fun o9 ho9 => ?_)
  obtain ⟨h1, p, rfl⟩ := ho9
  refine ⟨(.inl (AI 1), _), (show hnd 307 122 0 _ = _ from rfl), ?_⟩
  exact ⟨h1, p, rfl⟩
theorem wT308 {x0 x1 : Int} (hc : Rn (ev 123 0 [AR 1, AI x0, AI x1, AU] [] (KS r d, h, R)) (fun o => ∃ h1, P h1 ∧ o = (.inl (AI v), (KS r d, h1, R)))) : Rn (ev 308 0 [AR 1, AI x0, AI x1, AR 282, AU] [] (KS r d, h, R)) (fun o => ∃ h1, P h1 ∧ o = (.inl (AI 0), (KS r d, hput h1 282 0 v, R))) := by
  have k1 := @kd_1 r d
  have k282 := @kd_282 r d
  refine w_aloadn f308_0 rfl (by omega) ?_
  refine w_iconst (v := 0) f308_1 (by decide) ?_
  refine w_aloadn f308_2 rfl (by omega) ?_
  refine w_iloadn f308_3 rfl ?_
  refine w_iloadn f308_4 rfl ?_
  refine w_qV f308_5 (Or.inl rfl) rfl (by omega) (okd_of (by assumption)) rfl ⟨Nat.le_of_ble_eq_true rfl, rfl, Nat.le_of_ble_eq_true rfl⟩ (en123 _ _ _) (hc) (fun o9 ho9 => ?_)
  obtain ⟨h1, p, rfl⟩ := ho9
  refine w_bok (pv123 _ _) ?_
  refine w_i2l f308_8 ?_
  refine w_last f308_9 (by assumption) (by omega) ?_
  refine w_goto (t := 25) f308_10 (by decide) ?_
  refine w_iconst (v := 0) f308_25 (by decide) ?_
  refine w_iret f308_26 rfl ?_
  exact ⟨h1, p, rfl⟩
theorem wF308_0 {x0 x1 : Int} (hc : Rn (ev 123 0 [AR 1, AI x0, AI x1, AU] [] (KS r d, h, R)) (fun o => ∃ h1, P h1 ∧ o = (.inr 0, bump (KS r d, h1, R)))) : Rn (ev 308 0 [AR 1, AI x0, AI x1, AR 282, AU] [] (KS r d, h, R)) (fun o => ∃ h1, P h1 ∧ o = (.inl (AI 1), bump (KS r d, h1, R))) := by
  have k1 := @kd_1 r d
  have k282 := @kd_282 r d
  refine w_aloadn f308_0 rfl (by omega) ?_
  refine w_iconst (v := 0) f308_1 (by decide) ?_
  refine w_aloadn f308_2 rfl (by omega) ?_
  refine w_iloadn f308_3 rfl ?_
  refine w_iloadn f308_4 rfl ?_
  refine w_qV f308_5 (Or.inl rfl) rfl (by omega) (okd_of (by assumption)) rfl ⟨Nat.le_of_ble_eq_true rfl, rfl, Nat.le_of_ble_eq_true rfl⟩ (en123 _ _ _) (hc) (fun o9 ho9 => ?_)
  obtain ⟨h1, p, rfl⟩ := ho9
  refine ⟨(.inl (AI 1), _), (show hnd 308 123 0 _ = _ from rfl), ?_⟩
  exact ⟨h1, p, rfl⟩
theorem wF308_1 {x0 x1 : Int} (hc : Rn (ev 123 0 [AR 1, AI x0, AI x1, AU] [] (KS r d, h, R)) (fun o => ∃ h1, P h1 ∧ o = (.inr 1, bump (KS r d, h1, R)))) : Rn (ev 308 0 [AR 1, AI x0, AI x1, AR 282, AU] [] (KS r d, h, R)) (fun o => ∃ h1, P h1 ∧ o = (.inl (AI 2), bump (KS r d, h1, R))) := by
  have k1 := @kd_1 r d
  have k282 := @kd_282 r d
  refine w_aloadn f308_0 rfl (by omega) ?_
  refine w_iconst (v := 0) f308_1 (by decide) ?_
  refine w_aloadn f308_2 rfl (by omega) ?_
  refine w_iloadn f308_3 rfl ?_
  refine w_iloadn f308_4 rfl ?_
  refine w_qV f308_5 (Or.inl rfl) rfl (by omega) (okd_of (by assumption)) rfl ⟨Nat.le_of_ble_eq_true rfl, rfl, Nat.le_of_ble_eq_true rfl⟩ (en123 _ _ _) (hc) (fun o9 ho9 => ?_)
  obtain ⟨h1, p, rfl⟩ := ho9
  refine ⟨(.inl (AI 2), _), (show hnd 308 123 1 _ = _ from rfl), ?_⟩
  exact ⟨h1, p, rfl⟩
theorem wF308_2 {x0 x1 : Int} (hc : Rn (ev 123 0 [AR 1, AI x0, AI x1, AU] [] (KS r d, h, R)) (fun o => ∃ h1, P h1 ∧ o = (.inr 2, bump (KS r d, h1, R)))) : Rn (ev 308 0 [AR 1, AI x0, AI x1, AR 282, AU] [] (KS r d, h, R)) (fun o => ∃ h1, P h1 ∧ o = (.inl (AI 3), bump (KS r d, h1, R))) := by
  have k1 := @kd_1 r d
  have k282 := @kd_282 r d
  refine w_aloadn f308_0 rfl (by omega) ?_
  refine w_iconst (v := 0) f308_1 (by decide) ?_
  refine w_aloadn f308_2 rfl (by omega) ?_
  refine w_iloadn f308_3 rfl ?_
  refine w_iloadn f308_4 rfl ?_
  refine w_qV f308_5 (Or.inl rfl) rfl (by omega) (okd_of (by assumption)) rfl ⟨Nat.le_of_ble_eq_true rfl, rfl, Nat.le_of_ble_eq_true rfl⟩ (en123 _ _ _) (hc) (fun o9 ho9 => ?_)
  obtain ⟨h1, p, rfl⟩ := ho9
  refine ⟨(.inl (AI 3), _), (show hnd 308 123 2 _ = _ from rfl), ?_⟩
  exact ⟨h1, p, rfl⟩
theorem wT309 {x0 x1 x2 : Int} (hc : Rn (ev 126 0 [AR 1, AI x0, AI x1, AI x2] [] (KS r d, h, R)) (fun o => ∃ h1, P h1 ∧ o = (.inl (AI v), (KS r d, h1, R)))) : Rn (ev 309 0 [AR 1, AI x0, AI x1, AI x2, AR 282, AU] [] (KS r d, h, R)) (fun o => ∃ h1, P h1 ∧ o = (.inl (AI 0), (KS r d, hput h1 282 0 v, R))) := by
  have k1 := @kd_1 r d
  have k282 := @kd_282 r d
  refine w_aload f309_0 rfl (by omega) ?_
  refine w_iconst (v := 0) f309_2 (by decide) ?_
  refine w_aloadn f309_3 rfl (by omega) ?_
  refine w_iloadn f309_4 rfl ?_
  refine w_iloadn f309_5 rfl ?_
  refine w_iloadn f309_6 rfl ?_
  refine w_qV f309_7 (Or.inl rfl) rfl (by omega) (okd_of (by assumption)) rfl ⟨Nat.le_of_ble_eq_true rfl, rfl, Nat.le_of_ble_eq_true rfl⟩ (en126 _ _ _ _) (hc) (fun o9 ho9 => ?_)
  obtain ⟨h1, p, rfl⟩ := ho9
  refine w_bok (pv126 _ _) ?_
  refine w_i2l f309_10 ?_
  refine w_last f309_11 (by assumption) (by omega) ?_
  refine w_goto (t := 27) f309_12 (by decide) ?_
  refine w_iconst (v := 0) f309_27 (by decide) ?_
  refine w_iret f309_28 rfl ?_
  exact ⟨h1, p, rfl⟩
theorem wF309_0 {x0 x1 x2 : Int} (hc : Rn (ev 126 0 [AR 1, AI x0, AI x1, AI x2] [] (KS r d, h, R)) (fun o => ∃ h1, P h1 ∧ o = (.inr 0, bump (KS r d, h1, R)))) : Rn (ev 309 0 [AR 1, AI x0, AI x1, AI x2, AR 282, AU] [] (KS r d, h, R)) (fun o => ∃ h1, P h1 ∧ o = (.inl (AI 1), bump (KS r d, h1, R))) := by
  have k1 := @kd_1 r d
  have k282 := @kd_282 r d
  refine w_aload f309_0 rfl (by omega) ?_
  refine w_iconst (v := 0) f309_2 (by decide) ?_
  refine w_aloadn f309_3 rfl (by omega) ?_
  refine w_iloadn f309_4 rfl ?_
  refine w_iloadn f309_5 rfl ?_
  refine w_iloadn f309_6 rfl ?_
  refine w_qV f309_7 (Or.inl rfl) rfl (by omega) (okd_of (by assumption)) rfl ⟨Nat.le_of_ble_eq_true rfl, rfl, Nat.le_of_ble_eq_true rfl⟩ (en126 _ _ _ _) (hc) (fun o9 ho9 => ?_)
  obtain ⟨h1, p, rfl⟩ := ho9
  refine ⟨(.inl (AI 1), _), (show hnd 309 126 0 _ = _ from rfl), ?_⟩
  exact ⟨h1, p, rfl⟩
theorem wF309_1 {x0 x1 x2 : Int} (hc : Rn (ev 126 0 [AR 1, AI x0, AI x1, AI x2] [] (KS r d, h, R)) (fun o => ∃ h1, P h1 ∧ o = (.inr 1, bump (KS r d, h1, R)))) : Rn (ev 309 0 [AR 1, AI x0, AI x1, AI x2, AR 282, AU] [] (KS r d, h, R)) (fun o => ∃ h1, P h1 ∧ o = (.inl (AI 2), bump (KS r d, h1, R))) := by
  have k1 := @kd_1 r d
  have k282 := @kd_282 r d
  refine w_aload f309_0 rfl (by omega) ?_
  refine w_iconst (v := 0) f309_2 (by decide) ?_
  refine w_aloadn f309_3 rfl (by omega) ?_
  refine w_iloadn f309_4 rfl ?_
  refine w_iloadn f309_5 rfl ?_
  refine w_iloadn f309_6 rfl ?_
  refine w_qV f309_7 (Or.inl rfl) rfl (by omega) (okd_of (by assumption)) rfl ⟨Nat.le_of_ble_eq_true rfl, rfl, Nat.le_of_ble_eq_true rfl⟩ (en126 _ _ _ _) (hc) (fun o9 ho9 => ?_)
  obtain ⟨h1, p, rfl⟩ := ho9
  refine ⟨(.inl (AI 2), _), (show hnd 309 126 1 _ = _ from rfl), ?_⟩
  exact ⟨h1, p, rfl⟩
theorem wF309_2 {x0 x1 x2 : Int} (hc : Rn (ev 126 0 [AR 1, AI x0, AI x1, AI x2] [] (KS r d, h, R)) (fun o => ∃ h1, P h1 ∧ o = (.inr 2, bump (KS r d, h1, R)))) : Rn (ev 309 0 [AR 1, AI x0, AI x1, AI x2, AR 282, AU] [] (KS r d, h, R)) (fun o => ∃ h1, P h1 ∧ o = (.inl (AI 3), bump (KS r d, h1, R))) := by
  have k1 := @kd_1 r d
  have k282 := @kd_282 r d
  refine w_aload f309_0 rfl (by omega) ?_
  refine w_iconst (v := 0) f309_2 (by decide) ?_
  refine w_aloadn f309_3 rfl (by omega) ?_
  refine w_iloadn f309_4 rfl ?_
  refine w_iloadn f309_5 rfl ?_
  refine w_iloadn f309_6 rfl ?_
  refine w_qV f309_7 (Or.inl rfl) rfl (by omega) (okd_of (by assumption)) rfl ⟨Nat.le_of_ble_eq_true rfl, rfl, Nat.le_of_ble_eq_true rfl⟩ (en126 _ _ _ _) (hc) (fun o9 ho9 => ?_)
  obtain ⟨h1, p, rfl⟩ := ho9
  refine ⟨(.inl (AI 3), _), (show hnd 309 126 2 _ = _ from rfl), ?_⟩
  exact ⟨h1, p, rfl⟩
theorem wT310 (hc : Rn (ev 127 0 [AR 1] [] (KS r d, h, R)) (fun o => ∃ h1, P h1 ∧ o = (.inl (AI v), (KS r d, h1, R)))) : Rn (ev 310 0 [AR 1, AR 282, AU] [] (KS r d, h, R)) (fun o => ∃ h1, P h1 ∧ o = (.inl (AI 0), (KS r d, hput h1 282 0 v, R))) := by
  have k1 := @kd_1 r d
  have k282 := @kd_282 r d
  refine w_aloadn f310_0 rfl (by omega) ?_
  refine w_iconst (v := 0) f310_1 (by decide) ?_
  refine w_aloadn f310_2 rfl (by omega) ?_
  refine w_qV f310_3 (Or.inl rfl) rfl (by omega) (okd_of (by assumption)) rfl ⟨Nat.le_of_ble_eq_true rfl, rfl, Nat.le_of_ble_eq_true rfl⟩ (en127 _) (hc) (fun o9 ho9 => ?_)
  obtain ⟨h1, p, rfl⟩ := ho9
  refine w_bok (pv127 _ _) ?_
  refine w_i2l f310_6 ?_
  refine w_last f310_7 (by assumption) (by omega) ?_
  refine w_goto (t := 14) f310_8 (by decide) ?_
  refine w_iconst (v := 0) f310_14 (by decide) ?_
  refine w_iret f310_15 rfl ?_
  exact ⟨h1, p, rfl⟩
theorem wF310_3 (hc : Rn (ev 127 0 [AR 1] [] (KS r d, h, R)) (fun o => ∃ h1, P h1 ∧ o = (.inr 3, bump (KS r d, h1, R)))) : Rn (ev 310 0 [AR 1, AR 282, AU] [] (KS r d, h, R)) (fun o => ∃ h1, P h1 ∧ o = (.inl (AI 1), bump (KS r d, h1, R))) := by
  have k1 := @kd_1 r d
  have k282 := @kd_282 r d
  refine w_aloadn f310_0 rfl (by omega) ?_
  refine w_iconst (v := 0) f310_1 (by decide) ?_
  refine w_aloadn f310_2 rfl (by omega) ?_
  refine w_qV f310_3 (Or.inl rfl) rfl (by omega) (okd_of (by assumption)) rfl ⟨Nat.le_of_ble_eq_true rfl, rfl, Nat.le_of_ble_eq_true rfl⟩ (en127 _) (hc) (fun o9 ho9 => ?_)
  obtain ⟨h1, p, rfl⟩ := ho9
  refine ⟨(.inl (AI 1), _), (show hnd 310 127 3 _ = _ from rfl), ?_⟩
  exact ⟨h1, p, rfl⟩
theorem wT311 (hc : Rn (ev 131 0 [AR 1] [] (KS r d, h, R)) (fun o => ∃ h1, P h1 ∧ o = (.inl (AI v), (KS r d, h1, R)))) : Rn (ev 311 0 [AR 1, AR 282, AU] [] (KS r d, h, R)) (fun o => ∃ h1, P h1 ∧ o = (.inl (AI 0), (KS r d, hput h1 282 0 v, R))) := by
  have k1 := @kd_1 r d
  have k282 := @kd_282 r d
  refine w_aloadn f311_0 rfl (by omega) ?_
  refine w_iconst (v := 0) f311_1 (by decide) ?_
  refine w_aloadn f311_2 rfl (by omega) ?_
  refine w_qV f311_3 (Or.inl rfl) rfl (by omega) (okd_of (by assumption)) rfl ⟨Nat.le_of_ble_eq_true rfl, rfl, Nat.le_of_ble_eq_true rfl⟩ (en131 _) (hc) (fun o9 ho9 => ?_)
  obtain ⟨h1, p, rfl⟩ := ho9
  refine w_bok (pv131 _ _) ?_
  refine w_i2l f311_6 ?_
  refine w_last f311_7 (by assumption) (by omega) ?_
  refine w_goto (t := 14) f311_8 (by decide) ?_
  refine w_iconst (v := 0) f311_14 (by decide) ?_
  refine w_iret f311_15 rfl ?_
  exact ⟨h1, p, rfl⟩
theorem wF311_3 (hc : Rn (ev 131 0 [AR 1] [] (KS r d, h, R)) (fun o => ∃ h1, P h1 ∧ o = (.inr 3, bump (KS r d, h1, R)))) : Rn (ev 311 0 [AR 1, AR 282, AU] [] (KS r d, h, R)) (fun o => ∃ h1, P h1 ∧ o = (.inl (AI 1), bump (KS r d, h1, R))) := by
  have k1 := @kd_1 r d
  have k282 := @kd_282 r d
  refine w_aloadn f311_0 rfl (by omega) ?_
  refine w_iconst (v := 0) f311_1 (by decide) ?_
  refine w_aloadn f311_2 rfl (by omega) ?_
  refine w_qV f311_3 (Or.inl rfl) rfl (by omega) (okd_of (by assumption)) rfl ⟨Nat.le_of_ble_eq_true rfl, rfl, Nat.le_of_ble_eq_true rfl⟩ (en131 _) (hc) (fun o9 ho9 => ?_)
  obtain ⟨h1, p, rfl⟩ := ho9
  refine ⟨(.inl (AI 1), _), (show hnd 311 131 3 _ = _ from rfl), ?_⟩
  exact ⟨h1, p, rfl⟩
end A

/-! the reference's changes, whole -/
section A
variable {K : List AKd} {h : Nat → Nat → Int} {R : R4} {σ : Sg} {r d : Nat} {w : Nat → Int}
theorem Rem.hw {h1 : Nat → Nat → Int} (q : Rem h w h1) (hw : h 269 = w) : h1 269 = w := by
  subst hw
  exact funext fun y => q.2.2.2 269 y (by decide) (fun z => absurd z.1 (by decide))
/-- a change: the row w is remembered, f is the row then -/
def CQ (r d : Nat) (R : R4) (h : Nat → Nat → Int) (w f : Nat → Int) (v : Int) : Out → Prop := fun o => ∃ h1 h2, Rem (hput h 268 6 0) w h1 ∧ Ch h1 f h2 ∧ o = (.inl (AI v), (KS r d, h2, R))
theorem s271t {e : Int} (hw : h 269 = w) (hE : 0 ≤ w 1 ∧ w 1 ≤ 8) (hf : WFt w) (hc : WFc w) (h8 : 0 ≤ w 18 ∧ w 18 ≤ 20) (h4 : 0 ≤ h 268 4 ∧ h 268 4 ≤ 8) (he : 0 ≤ e ∧ e < w 1) : Rn (ev 271 0 [AR 268, AI e] [] (KS r d, h, R)) (CQ r d R h w (firW w e) (vdt w (hereW w) e).1) := by
  have k0 := @kd_268 r d
  refine w_aloadn f271_0 rfl (by omega) ?_
  refine w_iconst (v := 0) f271_1 (by decide) ?_
  refine w_putI f271_2 (by assumption) ?_
  refine w_aloadn f271_5 rfl (by omega) ?_
  refine w_iloadn f271_6 rfl ?_
  refine w_iconst (v := 1) f271_7 (by decide) ?_
  refine w_cV f271_8 (Or.inl rfl) rfl (by omega) (okd_of (by assumption)) rfl ⟨Nat.le_of_ble_eq_true rfl, rfl, Nat.le_of_ble_eq_true rfl⟩ (en232 _ _ _) (s232t (w := w) (nj := 1) (by repeat (first | exact hw | refine setv_w ?_ (by decide) | refine hput_w ?_ (by decide))) rfl (by decide) (by omega) he) (pv232 _ _) ?_
  refine w_if_eq (t := 16) f271_11 (by decide) (fun c1 => ?_) (fun c1 => by omega)
  refine w_aloadn f271_16 rfl (by omega) ?_
  refine w_qV f271_17 (Or.inl rfl) rfl (by omega) (okd_of (by assumption)) rfl ⟨Nat.le_of_ble_eq_true rfl, rfl, Nat.le_of_ble_eq_true rfl⟩ (en186 _) (s186 (w := w) (by repeat (first | exact hw | refine setv_w ?_ (by decide) | refine hput_w ?_ (by decide))) h4) (fun o9 ho9 => ?_)
  obtain ⟨h1, q1, rfl⟩ := ho9
  refine w_bok (pv186 _ _) ?_
  refine w_aloadn f271_20 rfl (by omega) ?_
  refine w_iloadn f271_21 rfl ?_
  refine w_qV f271_22 (Or.inl rfl) rfl (by omega) (okd_of (by assumption)) rfl ⟨Nat.le_of_ble_eq_true rfl, rfl, Nat.le_of_ble_eq_true rfl⟩ (en181 _ _) (s181 (q1.hw (by repeat (first | exact hw | refine setv_w ?_ (by decide) | refine hput_w ?_ (by decide)))) hf hc h8) (fun o9 ho9 => ?_)
  obtain ⟨h2, q2, rfl⟩ := ho9
  refine w_bok (pv181 _ _) ?_
  refine w_iret f271_25 rfl ?_
  exact ⟨h1, h2, q1, q2, rfl⟩
theorem s271f {e : Int} (hw : h 269 = w) (hE : 0 ≤ w 1 ∧ w 1 ≤ 8) (he : ¬ (0 ≤ e ∧ e < w 1)) : ev 271 0 [AR 268, AI e] [] (KS r d, h, R) = some (.inl (AI 0), (KS r d, hput h 268 6 1, R)) := by
  refine Rn.eq ?_
  have k0 := @kd_268 r d
  refine w_aloadn f271_0 rfl (by omega) ?_
  refine w_iconst (v := 0) f271_1 (by decide) ?_
  refine w_putI f271_2 (by assumption) ?_
  refine w_aloadn f271_5 rfl (by omega) ?_
  refine w_iloadn f271_6 rfl ?_
  refine w_iconst (v := 1) f271_7 (by decide) ?_
  refine w_cV f271_8 (Or.inl rfl) rfl (by omega) (okd_of (by assumption)) rfl ⟨Nat.le_of_ble_eq_true rfl, rfl, Nat.le_of_ble_eq_true rfl⟩ (en232 _ _ _) (s232f (w := w) (nj := 1) (by repeat (first | exact hw | refine setv_w ?_ (by decide) | refine hput_w ?_ (by decide))) rfl (by decide) (by omega) he) (pv232 _ _) ?_
  refine w_if_eq (t := 16) f271_11 (by decide) (fun c1 => by omega) (fun c1 => ?_)
  refine w_iconst (v := 0) f271_14 (by decide) ?_
  refine w_iret f271_15 rfl ?_
  rw [hput_ss]
theorem s272t {i v : Int} (hw : h 269 = w) (hV : 0 ≤ w 2 ∧ w 2 ≤ 3) (hf : WFt w) (hc : WFc w) (h4 : 0 ≤ h 268 4 ∧ h 268 4 ≤ 8) (hi : 0 ≤ i ∧ i < w 2) (hv : 0 ≤ v ∧ v ≤ 9) (hm : fb w (withV (hereW w) i v) = -1) : Rn (ev 272 0 [AR 268, AI i, AI v] [] (KS r d, h, R)) (CQ r d R h w (udI w (6 + i).toNat v) (w (6 + i).toNat)) := by
  have k0 := @kd_268 r d
  refine w_aloadn f272_0 rfl (by omega) ?_
  refine w_iconst (v := 0) f272_1 (by decide) ?_
  refine w_putI f272_2 (by assumption) ?_
  refine w_aloadn f272_5 rfl (by omega) ?_
  refine w_iloadn f272_6 rfl ?_
  refine w_iconst (v := 2) f272_7 (by decide) ?_
  refine w_cV f272_8 (Or.inl rfl) rfl (by omega) (okd_of (by assumption)) rfl ⟨Nat.le_of_ble_eq_true rfl, rfl, Nat.le_of_ble_eq_true rfl⟩ (en232 _ _ _) (s232t (w := w) (nj := 2) (by repeat (first | exact hw | refine setv_w ?_ (by decide) | refine hput_w ?_ (by decide))) rfl (by decide) (by omega) hi) (pv232 _ _) ?_
  refine w_if_ne (t := 59) f272_11 (by decide) (fun c1 => by omega) (fun c1 => ?_)
  refine w_aloadn f272_14 rfl (by omega) ?_
  refine w_iloadn f272_15 rfl ?_
  refine w_iconst (v := 0) f272_16 (by decide) ?_
  refine w_bipush (v := 9) f272_17 (by decide) ?_
  refine w_cS f272_19 (Or.inl rfl) (Nat.le_of_ble_eq_true rfl) rfl rfl ⟨Nat.le_of_ble_eq_true rfl, rfl, Nat.le_of_ble_eq_true rfl⟩ (en148 _ _ _) (s148) (pv148 _ _) ?_
  refine w_ifb_ne (t := 29) f272_22 (by decide) (fun c2 => ?_) (fun c2 => by omega)
  refine w_iconst (v := 0) f272_29 (by decide) ?_
  refine w_iconst (v := 2) f272_30 (by decide) ?_
  refine w_cV f272_31 (Or.inl rfl) rfl (by omega) (okd_of (by assumption)) rfl ⟨Nat.le_of_ble_eq_true rfl, rfl, Nat.le_of_ble_eq_true rfl⟩ (en150 _ _ _) (s150 (by decide)) (pv150 _ _) ?_
  refine w_if_ne (t := 59) f272_34 (by decide) (fun c3 => by omega) (fun c3 => ?_)
  refine w_aloadn f272_37 rfl (by omega) ?_
  refine w_aloadn f272_38 rfl (by omega) ?_
  refine w_iloadn f272_39 rfl ?_
  refine w_iloadn f272_40 rfl ?_
  refine w_cV f272_41 (Or.inl rfl) rfl (by omega) (okd_of (by assumption)) rfl ⟨Nat.le_of_ble_eq_true rfl, rfl, Nat.le_of_ble_eq_true rfl⟩ (en182 _ _ _) (s182 (w := w) (by repeat (first | exact hw | refine setv_w ?_ (by decide) | refine hput_w ?_ (by decide))) hf hc hv) (pv182 _ _) ?_
  refine w_ifb_ne (t := 51) f272_44 (by decide) (fun c4 => ?_) (fun c4 => absurd hm (by assumption))
  refine w_iconst (v := 0) f272_51 (by decide) ?_
  refine w_iconst (v := 3) f272_52 (by decide) ?_
  refine w_cV f272_53 (Or.inl rfl) rfl (by omega) (okd_of (by assumption)) rfl ⟨Nat.le_of_ble_eq_true rfl, rfl, Nat.le_of_ble_eq_true rfl⟩ (en150 _ _ _) (s150 (by decide)) (pv150 _ _) ?_
  refine w_if_eq (t := 61) f272_56 (by decide) (fun c5 => ?_) (fun c5 => by omega)
  refine w_aloadn f272_61 rfl (by omega) ?_
  refine w_qV f272_62 (Or.inl rfl) rfl (by omega) (okd_of (by assumption)) rfl ⟨Nat.le_of_ble_eq_true rfl, rfl, Nat.le_of_ble_eq_true rfl⟩ (en186 _) (s186 (w := w) (by repeat (first | exact hw | refine setv_w ?_ (by decide) | refine hput_w ?_ (by decide))) h4) (fun o9 ho9 => ?_)
  obtain ⟨h1, q1, rfl⟩ := ho9
  refine w_bok (pv186 _ _) ?_
  refine w_aloadn f272_65 rfl (by omega) ?_
  refine w_iloadn f272_66 rfl ?_
  refine w_iloadn f272_67 rfl ?_
  refine w_qV f272_68 (Or.inl rfl) rfl (by omega) (okd_of (by assumption)) rfl ⟨Nat.le_of_ble_eq_true rfl, rfl, Nat.le_of_ble_eq_true rfl⟩ (en183 _ _ _) (s183 (q1.hw (by repeat (first | exact hw | refine setv_w ?_ (by decide) | refine hput_w ?_ (by decide)))) (by omega)) (fun o9 ho9 => ?_)
  obtain ⟨h2, q2, rfl⟩ := ho9
  refine w_bok (pv183 _ _) ?_
  refine w_iret f272_71 rfl ?_
  exact ⟨h1, h2, q1, q2, rfl⟩
theorem s272a {i v : Int} (hw : h 269 = w) (hV : 0 ≤ w 2 ∧ w 2 ≤ 3) (hi : ¬ (0 ≤ i ∧ i < w 2)) : ev 272 0 [AR 268, AI i, AI v] [] (KS r d, h, R) = some (.inl (AI 0), (KS r d, hput h 268 6 1, R)) := by
  refine Rn.eq ?_
  have k0 := @kd_268 r d
  refine w_aloadn f272_0 rfl (by omega) ?_
  refine w_iconst (v := 0) f272_1 (by decide) ?_
  refine w_putI f272_2 (by assumption) ?_
  refine w_aloadn f272_5 rfl (by omega) ?_
  refine w_iloadn f272_6 rfl ?_
  refine w_iconst (v := 2) f272_7 (by decide) ?_
  refine w_cV f272_8 (Or.inl rfl) rfl (by omega) (okd_of (by assumption)) rfl ⟨Nat.le_of_ble_eq_true rfl, rfl, Nat.le_of_ble_eq_true rfl⟩ (en232 _ _ _) (s232f (w := w) (nj := 2) (by repeat (first | exact hw | refine setv_w ?_ (by decide) | refine hput_w ?_ (by decide))) rfl (by decide) (by omega) hi) (pv232 _ _) ?_
  refine w_if_ne (t := 59) f272_11 (by decide) (fun c1 => ?_) (fun c1 => by omega)
  refine w_iconst (v := 0) f272_59 (by decide) ?_
  refine w_iret f272_60 rfl ?_
  rw [hput_ss]
theorem s272b {i v : Int} (hw : h 269 = w) (hV : 0 ≤ w 2 ∧ w 2 ≤ 3) (hi : 0 ≤ i ∧ i < w 2) (hv : ¬ (0 ≤ v ∧ v ≤ 9)) : ev 272 0 [AR 268, AI i, AI v] [] (KS r d, h, R) = some (.inl (AI 0), (KS r d, hput h 268 6 2, R)) := by
  refine Rn.eq ?_
  have k0 := @kd_268 r d
  refine w_aloadn f272_0 rfl (by omega) ?_
  refine w_iconst (v := 0) f272_1 (by decide) ?_
  refine w_putI f272_2 (by assumption) ?_
  refine w_aloadn f272_5 rfl (by omega) ?_
  refine w_iloadn f272_6 rfl ?_
  refine w_iconst (v := 2) f272_7 (by decide) ?_
  refine w_cV f272_8 (Or.inl rfl) rfl (by omega) (okd_of (by assumption)) rfl ⟨Nat.le_of_ble_eq_true rfl, rfl, Nat.le_of_ble_eq_true rfl⟩ (en232 _ _ _) (s232t (w := w) (nj := 2) (by repeat (first | exact hw | refine setv_w ?_ (by decide) | refine hput_w ?_ (by decide))) rfl (by decide) (by omega) hi) (pv232 _ _) ?_
  refine w_if_ne (t := 59) f272_11 (by decide) (fun c1 => by omega) (fun c1 => ?_)
  refine w_aloadn f272_14 rfl (by omega) ?_
  refine w_iloadn f272_15 rfl ?_
  refine w_iconst (v := 0) f272_16 (by decide) ?_
  refine w_bipush (v := 9) f272_17 (by decide) ?_
  refine w_cS f272_19 (Or.inl rfl) (Nat.le_of_ble_eq_true rfl) rfl rfl ⟨Nat.le_of_ble_eq_true rfl, rfl, Nat.le_of_ble_eq_true rfl⟩ (en148 _ _ _) (s148) (pv148 _ _) ?_
  refine w_ifb_ne (t := 29) f272_22 (by decide) (fun c2 => by omega) (fun c2 => ?_)
  refine w_iconst (v := 1) f272_25 (by decide) ?_
  refine w_goto (t := 30) f272_26 (by decide) ?_
  refine w_iconst (v := 2) f272_30 (by decide) ?_
  refine w_cV f272_31 (Or.inl rfl) rfl (by omega) (okd_of (by assumption)) rfl ⟨Nat.le_of_ble_eq_true rfl, rfl, Nat.le_of_ble_eq_true rfl⟩ (en150 _ _ _) (s150 (by decide)) (pv150 _ _) ?_
  refine w_if_ne (t := 59) f272_34 (by decide) (fun c3 => ?_) (fun c3 => by omega)
  refine w_iconst (v := 0) f272_59 (by decide) ?_
  refine w_iret f272_60 rfl ?_
  rw [if_pos rfl, hput_ss]
theorem s272c {i v : Int} (hw : h 269 = w) (hV : 0 ≤ w 2 ∧ w 2 ≤ 3) (hf : WFt w) (hc : WFc w) (hi : 0 ≤ i ∧ i < w 2) (hv : 0 ≤ v ∧ v ≤ 9) (hm : fb w (withV (hereW w) i v) ≠ -1) : ev 272 0 [AR 268, AI i, AI v] [] (KS r d, h, R) = some (.inl (AI 0), (KS r d, hput h 268 6 3, R)) := by
  refine Rn.eq ?_
  have k0 := @kd_268 r d
  refine w_aloadn f272_0 rfl (by omega) ?_
  refine w_iconst (v := 0) f272_1 (by decide) ?_
  refine w_putI f272_2 (by assumption) ?_
  refine w_aloadn f272_5 rfl (by omega) ?_
  refine w_iloadn f272_6 rfl ?_
  refine w_iconst (v := 2) f272_7 (by decide) ?_
  refine w_cV f272_8 (Or.inl rfl) rfl (by omega) (okd_of (by assumption)) rfl ⟨Nat.le_of_ble_eq_true rfl, rfl, Nat.le_of_ble_eq_true rfl⟩ (en232 _ _ _) (s232t (w := w) (nj := 2) (by repeat (first | exact hw | refine setv_w ?_ (by decide) | refine hput_w ?_ (by decide))) rfl (by decide) (by omega) hi) (pv232 _ _) ?_
  refine w_if_ne (t := 59) f272_11 (by decide) (fun c1 => by omega) (fun c1 => ?_)
  refine w_aloadn f272_14 rfl (by omega) ?_
  refine w_iloadn f272_15 rfl ?_
  refine w_iconst (v := 0) f272_16 (by decide) ?_
  refine w_bipush (v := 9) f272_17 (by decide) ?_
  refine w_cS f272_19 (Or.inl rfl) (Nat.le_of_ble_eq_true rfl) rfl rfl ⟨Nat.le_of_ble_eq_true rfl, rfl, Nat.le_of_ble_eq_true rfl⟩ (en148 _ _ _) (s148) (pv148 _ _) ?_
  refine w_ifb_ne (t := 29) f272_22 (by decide) (fun c2 => ?_) (fun c2 => by omega)
  refine w_iconst (v := 0) f272_29 (by decide) ?_
  refine w_iconst (v := 2) f272_30 (by decide) ?_
  refine w_cV f272_31 (Or.inl rfl) rfl (by omega) (okd_of (by assumption)) rfl ⟨Nat.le_of_ble_eq_true rfl, rfl, Nat.le_of_ble_eq_true rfl⟩ (en150 _ _ _) (s150 (by decide)) (pv150 _ _) ?_
  refine w_if_ne (t := 59) f272_34 (by decide) (fun c3 => by omega) (fun c3 => ?_)
  refine w_aloadn f272_37 rfl (by omega) ?_
  refine w_aloadn f272_38 rfl (by omega) ?_
  refine w_iloadn f272_39 rfl ?_
  refine w_iloadn f272_40 rfl ?_
  refine w_cV f272_41 (Or.inl rfl) rfl (by omega) (okd_of (by assumption)) rfl ⟨Nat.le_of_ble_eq_true rfl, rfl, Nat.le_of_ble_eq_true rfl⟩ (en182 _ _ _) (s182 (w := w) (by repeat (first | exact hw | refine setv_w ?_ (by decide) | refine hput_w ?_ (by decide))) hf hc hv) (pv182 _ _) ?_
  refine w_ifb_ne (t := 51) f272_44 (by decide) (fun c4 => (hm (by assumption)).elim) (fun c4 => ?_)
  refine w_iconst (v := 1) f272_47 (by decide) ?_
  refine w_goto (t := 52) f272_48 (by decide) ?_
  refine w_iconst (v := 3) f272_52 (by decide) ?_
  refine w_cV f272_53 (Or.inl rfl) rfl (by omega) (okd_of (by assumption)) rfl ⟨Nat.le_of_ble_eq_true rfl, rfl, Nat.le_of_ble_eq_true rfl⟩ (en150 _ _ _) (s150 (by decide)) (pv150 _ _) ?_
  refine w_if_eq (t := 61) f272_56 (by decide) (fun c5 => by omega) (fun c5 => ?_)
  refine w_iconst (v := 0) f272_59 (by decide) ?_
  refine w_iret f272_60 rfl ?_
  rw [if_pos rfl, if_neg (by decide), hput_ss]
theorem s273 (hw : h 269 = w) (h4 : 0 ≤ h 268 4 ∧ h 268 4 ≤ 8) : Rn (ev 273 0 [AR 268] [] (KS r d, h, R)) (CQ r d R h w (g2sW w) (w 5)) := by
  have k0 := @kd_268 r d
  refine w_aloadn f273_0 rfl (by omega) ?_
  refine w_iconst (v := 0) f273_1 (by decide) ?_
  refine w_putI f273_2 (by assumption) ?_
  refine w_aloadn f273_5 rfl (by omega) ?_
  refine w_qV f273_6 (Or.inl rfl) rfl (by omega) (okd_of (by assumption)) rfl ⟨Nat.le_of_ble_eq_true rfl, rfl, Nat.le_of_ble_eq_true rfl⟩ (en186 _) (s186 (w := w) (by repeat (first | exact hw | refine setv_w ?_ (by decide) | refine hput_w ?_ (by decide))) h4) (fun o9 ho9 => ?_)
  obtain ⟨h1, q1, rfl⟩ := ho9
  refine w_bok (pv186 _ _) ?_
  refine w_aloadn f273_9 rfl (by omega) ?_
  refine w_qV f273_10 (Or.inl rfl) rfl (by omega) (okd_of (by assumption)) rfl ⟨Nat.le_of_ble_eq_true rfl, rfl, Nat.le_of_ble_eq_true rfl⟩ (en184 _) (s184 (q1.hw (by repeat (first | exact hw | refine setv_w ?_ (by decide) | refine hput_w ?_ (by decide))))) (fun o9 ho9 => ?_)
  obtain ⟨h2, q2, rfl⟩ := ho9
  refine w_bok (pv184 _ _) ?_
  refine w_iret f273_13 rfl ?_
  exact ⟨h1, h2, q1, q2, rfl⟩
theorem s274 (hw : h 269 = w) (h5 : 0 ≤ w 5 ∧ w 5 ≤ 9) (h4 : 0 ≤ h 268 4 ∧ h 268 4 ≤ 8) : Rn (ev 274 0 [AR 268] [] (KS r d, h, R)) (CQ r d R h w (clrW w) (w 12)) := by
  have k0 := @kd_268 r d
  refine w_aloadn f274_0 rfl (by omega) ?_
  refine w_iconst (v := 0) f274_1 (by decide) ?_
  refine w_putI f274_2 (by assumption) ?_
  refine w_aloadn f274_5 rfl (by omega) ?_
  refine w_qV f274_6 (Or.inl rfl) rfl (by omega) (okd_of (by assumption)) rfl ⟨Nat.le_of_ble_eq_true rfl, rfl, Nat.le_of_ble_eq_true rfl⟩ (en186 _) (s186 (w := w) (by repeat (first | exact hw | refine setv_w ?_ (by decide) | refine hput_w ?_ (by decide))) h4) (fun o9 ho9 => ?_)
  obtain ⟨h1, q1, rfl⟩ := ho9
  refine w_bok (pv186 _ _) ?_
  refine w_aloadn f274_9 rfl (by omega) ?_
  refine w_qV f274_10 (Or.inl rfl) rfl (by omega) (okd_of (by assumption)) rfl ⟨Nat.le_of_ble_eq_true rfl, rfl, Nat.le_of_ble_eq_true rfl⟩ (en185 _) (s185 (q1.hw (by repeat (first | exact hw | refine setv_w ?_ (by decide) | refine hput_w ?_ (by decide)))) h5) (fun o9 ho9 => ?_)
  obtain ⟨h2, q2, rfl⟩ := ho9
  refine w_bok (pv185 _ _) ?_
  refine w_iret f274_13 rfl ?_
  exact ⟨h1, h2, q1, q2, rfl⟩
def mkpB (w : Nat → Int) (v o c : Int) : Bool := decide (w 4 ≠ 12) && cmpB (w (6 + v).toNat) o c && cmpB (w (9 + v).toNat) o c
theorem s275 {v o c : Int} (hw : h 269 = w) (hi : 0 ≤ v ∧ v ≤ 2) : ev 275 0 [AR 268, AI v, AI o, AI c] [] (KS r d, h, R) = some (.inl (AI (b2i (mkpB w v o c = true))), (KS r d, h, R)) := by
  refine Rn.eq ?_
  have k0 := @kd_268 r d
  have k1 := @kd_269 r d
  refine w_aloadn f275_0 rfl (by omega) ?_
  refine w_getR f275_1 (by assumption) rfl (by omega) ?_
  refine w_iconst (v := 4) f275_4 (by decide) ?_
  refine w_iald f275_5 (by assumption) (by omega) (by (try simp only [hput, hcopy, Nat.reduceEqDiff, Nat.add_left_cancel_iff, Nat.add_right_cancel_iff, Nat.left_eq_add, Nat.add_eq_left, Nat.right_eq_add, Nat.add_eq_right, Nat.reduceAdd, Nat.add_zero, Nat.succ_ne_self, Nat.one_ne_zero, Nat.zero_ne_one, eq_self, and_self, and_true, true_and, and_false, false_and, if_true, if_false, reduceIte, Int.reduceToNat, Int.toNat_natCast, hw]); exact rfl) ?_
  refine w_bipush (v := 12) f275_6 (by decide) ?_
  refine w_ic_ne (t := 13) f275_8 (by decide) (fun c1 => ?_) (fun c1 => ?_)
  · refine w_aloadn f275_13 rfl (by omega) ?_
    refine w_getR f275_14 (by assumption) rfl (by omega) ?_
    refine w_bipush (v := 6) f275_17 (by decide) ?_
    refine w_iloadn f275_19 rfl ?_
    refine w_iaddn f275_20 (by omega) ?_
    refine w_iald f275_21 (by assumption) (by omega) (by (try simp only [hput, hcopy, Nat.reduceEqDiff, Nat.add_left_cancel_iff, Nat.add_right_cancel_iff, Nat.left_eq_add, Nat.add_eq_left, Nat.right_eq_add, Nat.add_eq_right, Nat.reduceAdd, Nat.add_zero, Nat.succ_ne_self, Nat.one_ne_zero, Nat.zero_ne_one, eq_self, and_self, and_true, true_and, and_false, false_and, if_true, if_false, reduceIte, Int.reduceToNat, Int.toNat_natCast, hw]); exact rfl) ?_
    refine w_iloadn f275_22 rfl ?_
    refine w_iloadn f275_23 rfl ?_
    refine w_cS f275_24 (Or.inl rfl) (Nat.le_of_ble_eq_true rfl) rfl rfl ⟨Nat.le_of_ble_eq_true rfl, rfl, Nat.le_of_ble_eq_true rfl⟩ (en168 _ _ _) (s168) (pv168 _ _) ?_
    refine w_ifb_eq (t := 51) f275_27 (by decide) (fun c2 => ?_) (fun c2 => ?_)
    · refine w_iconst (v := 0) f275_51 (by decide) ?_
      refine w_zret f275_52 rfl (by decide) ?_
      first | (refine ob_t ?_; unfold mkpB; simp [*]; done) | (refine ob_f ?_; unfold mkpB; simp [*]; done)
    · refine w_aloadn f275_30 rfl (by omega) ?_
      refine w_getR f275_31 (by assumption) rfl (by omega) ?_
      refine w_bipush (v := 9) f275_34 (by decide) ?_
      refine w_iloadn f275_36 rfl ?_
      refine w_iaddn f275_37 (by omega) ?_
      refine w_iald f275_38 (by assumption) (by omega) (by (try simp only [hput, hcopy, Nat.reduceEqDiff, Nat.add_left_cancel_iff, Nat.add_right_cancel_iff, Nat.left_eq_add, Nat.add_eq_left, Nat.right_eq_add, Nat.add_eq_right, Nat.reduceAdd, Nat.add_zero, Nat.succ_ne_self, Nat.one_ne_zero, Nat.zero_ne_one, eq_self, and_self, and_true, true_and, and_false, false_and, if_true, if_false, reduceIte, Int.reduceToNat, Int.toNat_natCast, hw]); exact rfl) ?_
      refine w_iloadn f275_39 rfl ?_
      refine w_iloadn f275_40 rfl ?_
      refine w_cS f275_41 (Or.inl rfl) (Nat.le_of_ble_eq_true rfl) rfl rfl ⟨Nat.le_of_ble_eq_true rfl, rfl, Nat.le_of_ble_eq_true rfl⟩ (en168 _ _ _) (s168) (pv168 _ _) ?_
      refine w_ifb_eq (t := 51) f275_44 (by decide) (fun c3 => ?_) (fun c3 => ?_)
      · refine w_iconst (v := 0) f275_51 (by decide) ?_
        refine w_zret f275_52 rfl (by decide) ?_
        first | (refine ob_t ?_; unfold mkpB; simp [*]; done) | (refine ob_f ?_; unfold mkpB; simp [*]; done)
      · refine w_iconst (v := 1) f275_47 (by decide) ?_
        refine w_goto (t := 52) f275_48 (by decide) ?_
        refine w_zret f275_52 rfl (by decide) ?_
        first | (refine ob_t ?_; unfold mkpB; simp [*]; done) | (refine ob_f ?_; unfold mkpB; simp [*]; done)
  · refine w_iconst (v := 0) f275_11 (by decide) ?_
    refine w_zret f275_12 rfl (by decide) ?_
    first | (refine ob_t ?_; unfold mkpB; simp [*]; done) | (refine ob_f ?_; unfold mkpB; simp [*]; done)
theorem s276t {v o c : Int} (hw : h 269 = w) (hV : 0 ≤ w 2 ∧ w 2 ≤ 3) (hI : 0 ≤ w 4 ∧ w 4 ≤ 12) (h4 : 0 ≤ h 268 4 ∧ h 268 4 ≤ 8) (hi : 0 ≤ v ∧ v < w 2) (ho : (0 ≤ o ∧ o ≤ 5) ∧ (0 ≤ c ∧ c ≤ 9)) (hm : mkpB w v o c = true) : Rn (ev 276 0 [AR 268, AI v, AI o, AI c] [] (KS r d, h, R)) (CQ r d R h w (keepW w (-1) v o c) (w 4)) := by
  have k0 := @kd_268 r d
  have hI2 : w 4 ≠ 12 := fun z => by unfold mkpB at hm; rw [z] at hm; simp at hm
  refine w_aloadn f276_0 rfl (by omega) ?_
  refine w_iconst (v := 0) f276_1 (by decide) ?_
  refine w_putI f276_2 (by assumption) ?_
  refine w_aloadn f276_5 rfl (by omega) ?_
  refine w_iloadn f276_6 rfl ?_
  refine w_iconst (v := 2) f276_7 (by decide) ?_
  refine w_cV f276_8 (Or.inl rfl) rfl (by omega) (okd_of (by assumption)) rfl ⟨Nat.le_of_ble_eq_true rfl, rfl, Nat.le_of_ble_eq_true rfl⟩ (en232 _ _ _) (s232t (w := w) (nj := 2) (by repeat (first | exact hw | refine setv_w ?_ (by decide) | refine hput_w ?_ (by decide))) rfl (by decide) (by omega) hi) (pv232 _ _) ?_
  refine w_if_ne (t := 46) f276_11 (by decide) (fun c1 => by omega) (fun c1 => ?_)
  refine w_aloadn f276_14 rfl (by omega) ?_
  refine w_iloadn f276_15 rfl ?_
  refine w_iconst (v := 0) f276_16 (by decide) ?_
  refine w_iconst (v := 5) f276_17 (by decide) ?_
  refine w_cS f276_18 (Or.inl rfl) (Nat.le_of_ble_eq_true rfl) rfl rfl ⟨Nat.le_of_ble_eq_true rfl, rfl, Nat.le_of_ble_eq_true rfl⟩ (en148 _ _ _) (s148) (pv148 _ _) ?_
  refine w_ifb_eq (t := 34) f276_21 (by decide) (fun c2 => by omega) (fun c2 => ?_)
  refine w_iloadn f276_24 rfl ?_
  refine w_iconst (v := 0) f276_25 (by decide) ?_
  refine w_bipush (v := 9) f276_26 (by decide) ?_
  refine w_cS f276_28 (Or.inl rfl) (Nat.le_of_ble_eq_true rfl) rfl rfl ⟨Nat.le_of_ble_eq_true rfl, rfl, Nat.le_of_ble_eq_true rfl⟩ (en148 _ _ _) (s148) (pv148 _ _) ?_
  refine w_ifb_ne (t := 38) f276_31 (by decide) (fun c3 => ?_) (fun c3 => by omega)
  refine w_iconst (v := 0) f276_38 (by decide) ?_
  refine w_iconst (v := 2) f276_39 (by decide) ?_
  refine w_cV f276_40 (Or.inl rfl) rfl (by omega) (okd_of (by assumption)) rfl ⟨Nat.le_of_ble_eq_true rfl, rfl, Nat.le_of_ble_eq_true rfl⟩ (en150 _ _ _) (s150 (by decide)) (pv150 _ _) ?_
  refine w_if_eq (t := 48) f276_43 (by decide) (fun c4 => ?_) (fun c4 => by omega)
  refine w_aloadn f276_48 rfl (by omega) ?_
  refine w_aloadn f276_49 rfl (by omega) ?_
  refine w_iloadn f276_50 rfl ?_
  refine w_iloadn f276_51 rfl ?_
  refine w_iloadn f276_52 rfl ?_
  refine w_cV f276_53 (Or.inl rfl) rfl (by omega) (okd_of (by assumption)) rfl ⟨Nat.le_of_ble_eq_true rfl, rfl, Nat.le_of_ble_eq_true rfl⟩ (en275 _ _ _ _) (s275 (w := w) (by repeat (first | exact hw | refine setv_w ?_ (by decide) | refine hput_w ?_ (by decide))) (by omega)) (pv275 _ _) ?_
  refine w_ifb_ne (t := 63) f276_56 (by decide) (fun c5 => ?_) (fun c5 => absurd hm (by assumption))
  refine w_iconst (v := 0) f276_63 (by decide) ?_
  refine w_iconst (v := 3) f276_64 (by decide) ?_
  refine w_cV f276_65 (Or.inl rfl) rfl (by omega) (okd_of (by assumption)) rfl ⟨Nat.le_of_ble_eq_true rfl, rfl, Nat.le_of_ble_eq_true rfl⟩ (en150 _ _ _) (s150 (by decide)) (pv150 _ _) ?_
  refine w_if_eq (t := 73) f276_68 (by decide) (fun c6 => ?_) (fun c6 => by omega)
  refine w_aloadn f276_73 rfl (by omega) ?_
  refine w_qV f276_74 (Or.inl rfl) rfl (by omega) (okd_of (by assumption)) rfl ⟨Nat.le_of_ble_eq_true rfl, rfl, Nat.le_of_ble_eq_true rfl⟩ (en186 _) (s186 (w := w) (by repeat (first | exact hw | refine setv_w ?_ (by decide) | refine hput_w ?_ (by decide))) h4) (fun o9 ho9 => ?_)
  obtain ⟨h1, q1, rfl⟩ := ho9
  refine w_bok (pv186 _ _) ?_
  refine w_aloadn f276_77 rfl (by omega) ?_
  refine w_iconst (v := -1) f276_78 (by decide) ?_
  refine w_iloadn f276_79 rfl ?_
  refine w_iloadn f276_80 rfl ?_
  refine w_iloadn f276_81 rfl ?_
  refine w_qV f276_82 (Or.inl rfl) rfl (by omega) (okd_of (by assumption)) rfl ⟨Nat.le_of_ble_eq_true rfl, rfl, Nat.le_of_ble_eq_true rfl⟩ (en159 _ _ _ _ _) (s159 (q1.hw (by repeat (first | exact hw | refine setv_w ?_ (by decide) | refine hput_w ?_ (by decide)))) (by omega)) (fun o9 ho9 => ?_)
  obtain ⟨h2, q2, rfl⟩ := ho9
  refine w_bok (pv159 _ _) ?_
  refine w_iret f276_85 rfl ?_
  exact ⟨h1, h2, q1, q2, rfl⟩
theorem s276a {v o c : Int} (hw : h 269 = w) (hV : 0 ≤ w 2 ∧ w 2 ≤ 3) (hi : ¬ (0 ≤ v ∧ v < w 2)) : ev 276 0 [AR 268, AI v, AI o, AI c] [] (KS r d, h, R) = some (.inl (AI 0), (KS r d, hput h 268 6 1, R)) := by
  refine Rn.eq ?_
  have k0 := @kd_268 r d
  refine w_aloadn f276_0 rfl (by omega) ?_
  refine w_iconst (v := 0) f276_1 (by decide) ?_
  refine w_putI f276_2 (by assumption) ?_
  refine w_aloadn f276_5 rfl (by omega) ?_
  refine w_iloadn f276_6 rfl ?_
  refine w_iconst (v := 2) f276_7 (by decide) ?_
  refine w_cV f276_8 (Or.inl rfl) rfl (by omega) (okd_of (by assumption)) rfl ⟨Nat.le_of_ble_eq_true rfl, rfl, Nat.le_of_ble_eq_true rfl⟩ (en232 _ _ _) (s232f (w := w) (nj := 2) (by repeat (first | exact hw | refine setv_w ?_ (by decide) | refine hput_w ?_ (by decide))) rfl (by decide) (by omega) hi) (pv232 _ _) ?_
  refine w_if_ne (t := 46) f276_11 (by decide) (fun c1 => ?_) (fun c1 => by omega)
  refine w_iconst (v := 0) f276_46 (by decide) ?_
  refine w_iret f276_47 rfl ?_
  rw [hput_ss]
theorem s276b {v o c : Int} (hw : h 269 = w) (hV : 0 ≤ w 2 ∧ w 2 ≤ 3) (hi : 0 ≤ v ∧ v < w 2) (ho : ¬ ((0 ≤ o ∧ o ≤ 5) ∧ (0 ≤ c ∧ c ≤ 9))) : ev 276 0 [AR 268, AI v, AI o, AI c] [] (KS r d, h, R) = some (.inl (AI 0), (KS r d, hput h 268 6 2, R)) := by
  refine Rn.eq ?_
  have k0 := @kd_268 r d
  by_cases hq : 0 ≤ o ∧ o ≤ 5
  · refine w_aloadn f276_0 rfl (by omega) ?_
    refine w_iconst (v := 0) f276_1 (by decide) ?_
    refine w_putI f276_2 (by assumption) ?_
    refine w_aloadn f276_5 rfl (by omega) ?_
    refine w_iloadn f276_6 rfl ?_
    refine w_iconst (v := 2) f276_7 (by decide) ?_
    refine w_cV f276_8 (Or.inl rfl) rfl (by omega) (okd_of (by assumption)) rfl ⟨Nat.le_of_ble_eq_true rfl, rfl, Nat.le_of_ble_eq_true rfl⟩ (en232 _ _ _) (s232t (w := w) (nj := 2) (by repeat (first | exact hw | refine setv_w ?_ (by decide) | refine hput_w ?_ (by decide))) rfl (by decide) (by omega) hi) (pv232 _ _) ?_
    refine w_if_ne (t := 46) f276_11 (by decide) (fun c1 => by omega) (fun c1 => ?_)
    refine w_aloadn f276_14 rfl (by omega) ?_
    refine w_iloadn f276_15 rfl ?_
    refine w_iconst (v := 0) f276_16 (by decide) ?_
    refine w_iconst (v := 5) f276_17 (by decide) ?_
    refine w_cS f276_18 (Or.inl rfl) (Nat.le_of_ble_eq_true rfl) rfl rfl ⟨Nat.le_of_ble_eq_true rfl, rfl, Nat.le_of_ble_eq_true rfl⟩ (en148 _ _ _) (s148) (pv148 _ _) ?_
    refine w_ifb_eq (t := 34) f276_21 (by decide) (fun c2 => by omega) (fun c2 => ?_)
    refine w_iloadn f276_24 rfl ?_
    refine w_iconst (v := 0) f276_25 (by decide) ?_
    refine w_bipush (v := 9) f276_26 (by decide) ?_
    refine w_cS f276_28 (Or.inl rfl) (Nat.le_of_ble_eq_true rfl) rfl rfl ⟨Nat.le_of_ble_eq_true rfl, rfl, Nat.le_of_ble_eq_true rfl⟩ (en148 _ _ _) (s148) (pv148 _ _) ?_
    refine w_ifb_ne (t := 38) f276_31 (by decide) (fun c3 => by omega) (fun c3 => ?_)
    refine w_iconst (v := 1) f276_34 (by decide) ?_
    refine w_goto (t := 39) f276_35 (by decide) ?_
    refine w_iconst (v := 2) f276_39 (by decide) ?_
    refine w_cV f276_40 (Or.inl rfl) rfl (by omega) (okd_of (by assumption)) rfl ⟨Nat.le_of_ble_eq_true rfl, rfl, Nat.le_of_ble_eq_true rfl⟩ (en150 _ _ _) (s150 (by decide)) (pv150 _ _) ?_
    refine w_if_eq (t := 48) f276_43 (by decide) (fun c4 => by omega) (fun c4 => ?_)
    refine w_iconst (v := 0) f276_46 (by decide) ?_
    refine w_iret f276_47 rfl ?_
    rw [if_pos rfl, hput_ss]
  · refine w_aloadn f276_0 rfl (by omega) ?_
    refine w_iconst (v := 0) f276_1 (by decide) ?_
    refine w_putI f276_2 (by assumption) ?_
    refine w_aloadn f276_5 rfl (by omega) ?_
    refine w_iloadn f276_6 rfl ?_
    refine w_iconst (v := 2) f276_7 (by decide) ?_
    refine w_cV f276_8 (Or.inl rfl) rfl (by omega) (okd_of (by assumption)) rfl ⟨Nat.le_of_ble_eq_true rfl, rfl, Nat.le_of_ble_eq_true rfl⟩ (en232 _ _ _) (s232t (w := w) (nj := 2) (by repeat (first | exact hw | refine setv_w ?_ (by decide) | refine hput_w ?_ (by decide))) rfl (by decide) (by omega) hi) (pv232 _ _) ?_
    refine w_if_ne (t := 46) f276_11 (by decide) (fun c1 => by omega) (fun c1 => ?_)
    refine w_aloadn f276_14 rfl (by omega) ?_
    refine w_iloadn f276_15 rfl ?_
    refine w_iconst (v := 0) f276_16 (by decide) ?_
    refine w_iconst (v := 5) f276_17 (by decide) ?_
    refine w_cS f276_18 (Or.inl rfl) (Nat.le_of_ble_eq_true rfl) rfl rfl ⟨Nat.le_of_ble_eq_true rfl, rfl, Nat.le_of_ble_eq_true rfl⟩ (en148 _ _ _) (s148) (pv148 _ _) ?_
    refine w_ifb_eq (t := 34) f276_21 (by decide) (fun c2 => ?_) (fun c2 => by omega)
    refine w_iconst (v := 1) f276_34 (by decide) ?_
    refine w_goto (t := 39) f276_35 (by decide) ?_
    refine w_iconst (v := 2) f276_39 (by decide) ?_
    refine w_cV f276_40 (Or.inl rfl) rfl (by omega) (okd_of (by assumption)) rfl ⟨Nat.le_of_ble_eq_true rfl, rfl, Nat.le_of_ble_eq_true rfl⟩ (en150 _ _ _) (s150 (by decide)) (pv150 _ _) ?_
    refine w_if_eq (t := 48) f276_43 (by decide) (fun c3 => by omega) (fun c3 => ?_)
    refine w_iconst (v := 0) f276_46 (by decide) ?_
    refine w_iret f276_47 rfl ?_
    rw [if_pos rfl, hput_ss]
theorem s276c {v o c : Int} (hw : h 269 = w) (hV : 0 ≤ w 2 ∧ w 2 ≤ 3) (hi : 0 ≤ v ∧ v < w 2) (ho : (0 ≤ o ∧ o ≤ 5) ∧ (0 ≤ c ∧ c ≤ 9)) (hm : ¬ mkpB w v o c = true) : ev 276 0 [AR 268, AI v, AI o, AI c] [] (KS r d, h, R) = some (.inl (AI 0), (KS r d, hput h 268 6 3, R)) := by
  refine Rn.eq ?_
  have k0 := @kd_268 r d
  refine w_aloadn f276_0 rfl (by omega) ?_
  refine w_iconst (v := 0) f276_1 (by decide) ?_
  refine w_putI f276_2 (by assumption) ?_
  refine w_aloadn f276_5 rfl (by omega) ?_
  refine w_iloadn f276_6 rfl ?_
  refine w_iconst (v := 2) f276_7 (by decide) ?_
  refine w_cV f276_8 (Or.inl rfl) rfl (by omega) (okd_of (by assumption)) rfl ⟨Nat.le_of_ble_eq_true rfl, rfl, Nat.le_of_ble_eq_true rfl⟩ (en232 _ _ _) (s232t (w := w) (nj := 2) (by repeat (first | exact hw | refine setv_w ?_ (by decide) | refine hput_w ?_ (by decide))) rfl (by decide) (by omega) hi) (pv232 _ _) ?_
  refine w_if_ne (t := 46) f276_11 (by decide) (fun c1 => by omega) (fun c1 => ?_)
  refine w_aloadn f276_14 rfl (by omega) ?_
  refine w_iloadn f276_15 rfl ?_
  refine w_iconst (v := 0) f276_16 (by decide) ?_
  refine w_iconst (v := 5) f276_17 (by decide) ?_
  refine w_cS f276_18 (Or.inl rfl) (Nat.le_of_ble_eq_true rfl) rfl rfl ⟨Nat.le_of_ble_eq_true rfl, rfl, Nat.le_of_ble_eq_true rfl⟩ (en148 _ _ _) (s148) (pv148 _ _) ?_
  refine w_ifb_eq (t := 34) f276_21 (by decide) (fun c2 => by omega) (fun c2 => ?_)
  refine w_iloadn f276_24 rfl ?_
  refine w_iconst (v := 0) f276_25 (by decide) ?_
  refine w_bipush (v := 9) f276_26 (by decide) ?_
  refine w_cS f276_28 (Or.inl rfl) (Nat.le_of_ble_eq_true rfl) rfl rfl ⟨Nat.le_of_ble_eq_true rfl, rfl, Nat.le_of_ble_eq_true rfl⟩ (en148 _ _ _) (s148) (pv148 _ _) ?_
  refine w_ifb_ne (t := 38) f276_31 (by decide) (fun c3 => ?_) (fun c3 => by omega)
  refine w_iconst (v := 0) f276_38 (by decide) ?_
  refine w_iconst (v := 2) f276_39 (by decide) ?_
  refine w_cV f276_40 (Or.inl rfl) rfl (by omega) (okd_of (by assumption)) rfl ⟨Nat.le_of_ble_eq_true rfl, rfl, Nat.le_of_ble_eq_true rfl⟩ (en150 _ _ _) (s150 (by decide)) (pv150 _ _) ?_
  refine w_if_eq (t := 48) f276_43 (by decide) (fun c4 => ?_) (fun c4 => by omega)
  refine w_aloadn f276_48 rfl (by omega) ?_
  refine w_aloadn f276_49 rfl (by omega) ?_
  refine w_iloadn f276_50 rfl ?_
  refine w_iloadn f276_51 rfl ?_
  refine w_iloadn f276_52 rfl ?_
  refine w_cV f276_53 (Or.inl rfl) rfl (by omega) (okd_of (by assumption)) rfl ⟨Nat.le_of_ble_eq_true rfl, rfl, Nat.le_of_ble_eq_true rfl⟩ (en275 _ _ _ _) (s275 (w := w) (by repeat (first | exact hw | refine setv_w ?_ (by decide) | refine hput_w ?_ (by decide))) (by omega)) (pv275 _ _) ?_
  refine w_ifb_ne (t := 63) f276_56 (by decide) (fun c5 => (hm (by assumption)).elim) (fun c5 => ?_)
  refine w_iconst (v := 1) f276_59 (by decide) ?_
  refine w_goto (t := 64) f276_60 (by decide) ?_
  refine w_iconst (v := 3) f276_64 (by decide) ?_
  refine w_cV f276_65 (Or.inl rfl) rfl (by omega) (okd_of (by assumption)) rfl ⟨Nat.le_of_ble_eq_true rfl, rfl, Nat.le_of_ble_eq_true rfl⟩ (en150 _ _ _) (s150 (by decide)) (pv150 _ _) ?_
  refine w_if_eq (t := 73) f276_68 (by decide) (fun c6 => by omega) (fun c6 => ?_)
  refine w_iconst (v := 0) f276_71 (by decide) ?_
  refine w_iret f276_72 rfl ?_
  rw [if_pos rfl, if_neg (by decide), hput_ss]
theorem s277f (h4 : h 268 4 = 0) : ev 277 0 [AR 268] [] (KS r d, h, R) = some (.inl (AI 0), (KS r d, hput h 268 6 1, R)) := by
  refine Rn.eq ?_
  have k0 := @kd_268 r d
  refine w_aloadn f277_0 rfl (by omega) ?_
  refine w_iconst (v := 0) f277_1 (by decide) ?_
  refine w_putI f277_2 (by assumption) ?_
  refine w_aloadn f277_5 rfl (by omega) ?_
  refine w_aloadn f277_6 rfl (by omega) ?_
  refine w_getI f277_7 (by decide) (by assumption) (by (try simp only [hput, hcopy, Nat.reduceEqDiff, Nat.add_left_cancel_iff, Nat.add_right_cancel_iff, Nat.left_eq_add, Nat.add_eq_left, Nat.right_eq_add, Nat.add_eq_right, Nat.reduceAdd, Nat.add_zero, Nat.succ_ne_self, Nat.one_ne_zero, Nat.zero_ne_one, eq_self, and_self, and_true, true_and, and_false, false_and, if_true, if_false, reduceIte, Int.reduceToNat, Int.toNat_natCast]); exact rfl) ?_
  refine w_if_ne (t := 17) f277_10 (by decide) (fun c1 => by omega) (fun c1 => ?_)
  refine w_iconst (v := 1) f277_13 (by decide) ?_
  refine w_goto (t := 18) f277_14 (by decide) ?_
  refine w_iconst (v := 1) f277_18 (by decide) ?_
  refine w_cV f277_19 (Or.inl rfl) rfl (by omega) (okd_of (by assumption)) rfl ⟨Nat.le_of_ble_eq_true rfl, rfl, Nat.le_of_ble_eq_true rfl⟩ (en150 _ _ _) (s150 (by decide)) (pv150 _ _) ?_
  refine w_if_eq (t := 27) f277_22 (by decide) (fun c2 => by omega) (fun c2 => ?_)
  refine w_iconst (v := 0) f277_25 (by decide) ?_
  refine w_iret f277_26 rfl ?_
  rw [if_pos rfl, hput_ss]
/-- the row after undo; one less is remembered -/
theorem s277t {p : Int} (h4 : h 268 4 = p + 1) (hp : 0 ≤ p ∧ p ≤ 7) : ev 277 0 [AR 268] [] (KS r d, h, R) = some (.inl (AI p), (KS r d, hcopy (hput (hput h 268 6 0) 268 4 p) 272 (504 * p).toNat 269 0 504, R)) := by
  refine Rn.eq ?_
  have k0 := @kd_268 r d
  have k1 := @kd_269 r d
  have k2 := @kd_272 r d
  refine w_aloadn f277_0 rfl (by omega) ?_
  refine w_iconst (v := 0) f277_1 (by decide) ?_
  refine w_putI f277_2 (by assumption) ?_
  refine w_aloadn f277_5 rfl (by omega) ?_
  refine w_aloadn f277_6 rfl (by omega) ?_
  refine w_getI f277_7 (by decide) (by assumption) (by (try simp only [hput, hcopy, Nat.reduceEqDiff, Nat.add_left_cancel_iff, Nat.add_right_cancel_iff, Nat.left_eq_add, Nat.add_eq_left, Nat.right_eq_add, Nat.add_eq_right, Nat.reduceAdd, Nat.add_zero, Nat.succ_ne_self, Nat.one_ne_zero, Nat.zero_ne_one, eq_self, and_self, and_true, true_and, and_false, false_and, if_true, if_false, reduceIte, Int.reduceToNat, Int.toNat_natCast, h4]); exact rfl) ?_
  refine w_if_ne (t := 17) f277_10 (by decide) (fun c1 => ?_) (fun c1 => by omega)
  refine w_iconst (v := 0) f277_17 (by decide) ?_
  refine w_iconst (v := 1) f277_18 (by decide) ?_
  refine w_cV f277_19 (Or.inl rfl) rfl (by omega) (okd_of (by assumption)) rfl ⟨Nat.le_of_ble_eq_true rfl, rfl, Nat.le_of_ble_eq_true rfl⟩ (en150 _ _ _) (s150 (by decide)) (pv150 _ _) ?_
  refine w_if_eq (t := 27) f277_22 (by decide) (fun c2 => ?_) (fun c2 => by omega)
  rw [if_neg (by decide)]
  refine w_aloadn f277_27 rfl (by omega) ?_
  refine w_dup f277_28 rfl ?_
  refine w_getI f277_29 (by decide) (by assumption) (by (try simp only [hput, hcopy, Nat.reduceEqDiff, Nat.add_left_cancel_iff, Nat.add_right_cancel_iff, Nat.left_eq_add, Nat.add_eq_left, Nat.right_eq_add, Nat.add_eq_right, Nat.reduceAdd, Nat.add_zero, Nat.succ_ne_self, Nat.one_ne_zero, Nat.zero_ne_one, eq_self, and_self, and_true, true_and, and_false, false_and, if_true, if_false, reduceIte, Int.reduceToNat, Int.toNat_natCast, h4]); exact rfl) ?_
  refine w_iconst (v := 1) f277_32 (by decide) ?_
  refine w_isubn f277_33 (by omega) ?_
  rw [show p + 1 - 1 = p by omega]
  refine w_putI f277_34 (by assumption) ?_
  refine w_aloadn f277_37 rfl (by omega) ?_
  refine w_getR f277_38 (by assumption) rfl (by omega) ?_
  refine w_sipush (v := 504) f277_41 (by decide) ?_
  refine w_aloadn f277_44 rfl (by omega) ?_
  refine w_getI f277_45 (by decide) (by assumption) (by (try simp only [hput, hcopy, Nat.reduceEqDiff, Nat.add_left_cancel_iff, Nat.add_right_cancel_iff, Nat.left_eq_add, Nat.add_eq_left, Nat.right_eq_add, Nat.add_eq_right, Nat.reduceAdd, Nat.add_zero, Nat.succ_ne_self, Nat.one_ne_zero, Nat.zero_ne_one, eq_self, and_self, and_true, true_and, and_false, false_and, if_true, if_false, reduceIte, Int.reduceToNat, Int.toNat_natCast, h4]); exact rfl) ?_
  refine w_imuln f277_48 (by omega) ?_
  refine w_aloadn f277_49 rfl (by omega) ?_
  refine w_getR f277_50 (by assumption) rfl (by omega) ?_
  refine w_iconst (v := 0) f277_53 (by decide) ?_
  refine w_cS f277_54 (Or.inl rfl) (Nat.le_of_ble_eq_true rfl) rfl rfl ⟨Nat.le_of_ble_eq_true rfl, rfl, Nat.le_of_ble_eq_true rfl⟩ (en151 _ _ _ _) (s151 k2 k1 (by decide) (by decide) (by decide) (by omega) (by decide)) (pv151 _ _) ?_
  refine w_aloadn f277_57 rfl (by omega) ?_
  refine w_getI f277_58 (by decide) (by assumption) (by (try simp only [hput, hcopy, Nat.reduceEqDiff, Nat.add_left_cancel_iff, Nat.add_right_cancel_iff, Nat.left_eq_add, Nat.add_eq_left, Nat.right_eq_add, Nat.add_eq_right, Nat.reduceAdd, Nat.add_zero, Nat.succ_ne_self, Nat.one_ne_zero, Nat.zero_ne_one, eq_self, and_self, and_true, true_and, and_false, false_and, if_true, if_false, reduceIte, Int.reduceToNat, Int.toNat_natCast, h4]); exact rfl) ?_
  refine w_iret f277_61 rfl ?_
  rfl
theorem s282 (hw : h 269 = w) : ev 282 0 [AR 268] [] (KS r d, h, R) = some (.inl (AI (w 5)), (KS r d, hput (hcopy (hput h 268 6 0) 269 0 271 0 504) 268 5 1, R)) := by
  refine Rn.eq ?_
  have k0 := @kd_268 r d
  have k1 := @kd_269 r d
  have k2 := @kd_271 r d
  refine w_aloadn f282_0 rfl (by omega) ?_
  refine w_iconst (v := 0) f282_1 (by decide) ?_
  refine w_putI f282_2 (by assumption) ?_
  refine w_aloadn f282_5 rfl (by omega) ?_
  refine w_getR f282_6 (by assumption) rfl (by omega) ?_
  refine w_iconst (v := 0) f282_9 (by decide) ?_
  refine w_aloadn f282_10 rfl (by omega) ?_
  refine w_getR f282_11 (by assumption) rfl (by omega) ?_
  refine w_iconst (v := 0) f282_14 (by decide) ?_
  refine w_cS f282_15 (Or.inl rfl) (Nat.le_of_ble_eq_true rfl) rfl rfl ⟨Nat.le_of_ble_eq_true rfl, rfl, Nat.le_of_ble_eq_true rfl⟩ (en151 _ _ _ _) (s151 k1 k2 (by decide) (by decide) (by decide) (by decide) (by decide)) (pv151 _ _) ?_
  refine w_aloadn f282_18 rfl (by omega) ?_
  refine w_iconst (v := 1) f282_19 (by decide) ?_
  refine w_putZ f282_20 (by assumption) (by decide) ?_
  refine w_aloadn f282_23 rfl (by omega) ?_
  refine w_getR f282_24 (by assumption) rfl (by omega) ?_
  refine w_iconst (v := 5) f282_27 (by decide) ?_
  refine w_iald f282_28 (by assumption) (by omega) (by (try simp only [hput, hcopy, Nat.reduceEqDiff, Nat.add_left_cancel_iff, Nat.add_right_cancel_iff, Nat.left_eq_add, Nat.add_eq_left, Nat.right_eq_add, Nat.add_eq_right, Nat.reduceAdd, Nat.add_zero, Nat.succ_ne_self, Nat.one_ne_zero, Nat.zero_ne_one, eq_self, and_self, and_true, true_and, and_false, false_and, if_true, if_false, reduceIte, Int.reduceToNat, Int.toNat_natCast, hw]); exact rfl) ?_
  refine w_iret f282_29 rfl ?_
  rfl
theorem s283f (h5 : h 268 5 = 0) : ev 283 0 [AR 268] [] (KS r d, h, R) = some (.inl (AI 0), (KS r d, hput h 268 6 1, R)) := by
  refine Rn.eq ?_
  have k0 := @kd_268 r d
  refine w_aloadn f283_0 rfl (by omega) ?_
  refine w_iconst (v := 0) f283_1 (by decide) ?_
  refine w_putI f283_2 (by assumption) ?_
  refine w_aloadn f283_5 rfl (by omega) ?_
  refine w_aloadn f283_6 rfl (by omega) ?_
  refine w_getI f283_7 (by decide) (by assumption) (by (try simp only [hput, hcopy, Nat.reduceEqDiff, Nat.add_left_cancel_iff, Nat.add_right_cancel_iff, Nat.left_eq_add, Nat.add_eq_left, Nat.right_eq_add, Nat.add_eq_right, Nat.reduceAdd, Nat.add_zero, Nat.succ_ne_self, Nat.one_ne_zero, Nat.zero_ne_one, eq_self, and_self, and_true, true_and, and_false, false_and, if_true, if_false, reduceIte, Int.reduceToNat, Int.toNat_natCast, h5]); exact rfl) ?_
  refine w_if_ne (t := 17) f283_10 (by decide) (fun c1 => by omega) (fun c1 => ?_)
  refine w_iconst (v := 1) f283_13 (by decide) ?_
  refine w_goto (t := 18) f283_14 (by decide) ?_
  refine w_iconst (v := 1) f283_18 (by decide) ?_
  refine w_cV f283_19 (Or.inl rfl) rfl (by omega) (okd_of (by assumption)) rfl ⟨Nat.le_of_ble_eq_true rfl, rfl, Nat.le_of_ble_eq_true rfl⟩ (en150 _ _ _) (s150 (by decide)) (pv150 _ _) ?_
  refine w_if_eq (t := 27) f283_22 (by decide) (fun c2 => by omega) (fun c2 => ?_)
  refine w_iconst (v := 0) f283_25 (by decide) ?_
  refine w_iret f283_26 rfl ?_
  rw [if_pos rfl, hput_ss]
theorem s283t (h5 : h 268 5 ≠ 0) : ev 283 0 [AR 268] [] (KS r d, h, R) = some (.inl (AI (h 271 5)), (KS r d, hput (hcopy (hput h 268 6 0) 271 0 269 0 504) 268 4 0, R)) := by
  refine Rn.eq ?_
  have k0 := @kd_268 r d
  have k1 := @kd_269 r d
  have k2 := @kd_271 r d
  refine w_aloadn f283_0 rfl (by omega) ?_
  refine w_iconst (v := 0) f283_1 (by decide) ?_
  refine w_putI f283_2 (by assumption) ?_
  refine w_aloadn f283_5 rfl (by omega) ?_
  refine w_aloadn f283_6 rfl (by omega) ?_
  refine w_getI f283_7 (by decide) (by assumption) (by (try simp only [hput, hcopy, Nat.reduceEqDiff, Nat.add_left_cancel_iff, Nat.add_right_cancel_iff, Nat.left_eq_add, Nat.add_eq_left, Nat.right_eq_add, Nat.add_eq_right, Nat.reduceAdd, Nat.add_zero, Nat.succ_ne_self, Nat.one_ne_zero, Nat.zero_ne_one, eq_self, and_self, and_true, true_and, and_false, false_and, if_true, if_false, reduceIte, Int.reduceToNat, Int.toNat_natCast]); exact rfl) ?_
  refine w_if_ne (t := 17) f283_10 (by decide) (fun c1 => ?_) (fun c1 => by omega)
  refine w_iconst (v := 0) f283_17 (by decide) ?_
  refine w_iconst (v := 1) f283_18 (by decide) ?_
  refine w_cV f283_19 (Or.inl rfl) rfl (by omega) (okd_of (by assumption)) rfl ⟨Nat.le_of_ble_eq_true rfl, rfl, Nat.le_of_ble_eq_true rfl⟩ (en150 _ _ _) (s150 (by decide)) (pv150 _ _) ?_
  refine w_if_eq (t := 27) f283_22 (by decide) (fun c2 => ?_) (fun c2 => by omega)
  refine w_aloadn f283_27 rfl (by omega) ?_
  refine w_getR f283_28 (by assumption) rfl (by omega) ?_
  refine w_iconst (v := 0) f283_31 (by decide) ?_
  refine w_aloadn f283_32 rfl (by omega) ?_
  refine w_getR f283_33 (by assumption) rfl (by omega) ?_
  refine w_iconst (v := 0) f283_36 (by decide) ?_
  refine w_cS f283_37 (Or.inl rfl) (Nat.le_of_ble_eq_true rfl) rfl rfl ⟨Nat.le_of_ble_eq_true rfl, rfl, Nat.le_of_ble_eq_true rfl⟩ (en151 _ _ _ _) (s151 k2 k1 (by decide) (by decide) (by decide) (by decide) (by decide)) (pv151 _ _) ?_
  refine w_aloadn f283_40 rfl (by omega) ?_
  refine w_iconst (v := 0) f283_41 (by decide) ?_
  refine w_putI f283_42 (by assumption) ?_
  refine w_aloadn f283_45 rfl (by omega) ?_
  refine w_getR f283_46 (by assumption) rfl (by omega) ?_
  refine w_iconst (v := 5) f283_49 (by decide) ?_
  refine w_iald f283_50 (by assumption) (by omega) (by (try simp only [hput, hcopy, Nat.reduceEqDiff, Nat.add_left_cancel_iff, Nat.add_right_cancel_iff, Nat.left_eq_add, Nat.add_eq_left, Nat.right_eq_add, Nat.add_eq_right, Nat.reduceAdd, Nat.add_zero, Nat.succ_ne_self, Nat.one_ne_zero, Nat.zero_ne_one, eq_self, and_self, and_true, true_and, and_false, false_and, if_true, if_false, reduceIte, Int.reduceToNat, Int.toNat_natCast]); exact rfl) ?_
  refine w_iret f283_51 rfl ?_
  rfl
end A

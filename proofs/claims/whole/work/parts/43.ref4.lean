/-! the reference's verdict -/
section A
variable {K : List AKd} {h : Nat → Nat → Int} {R : R4} {σ : Sg} {r d : Nat} {w : Nat → Int}
theorem s154w {t j : Int} (hw : h 269 = w) (h1 : 0 ≤ t ∧ t < 24) (h2 : 0 ≤ j ∧ j < 9) : ev 154 0 [AR 268, AI t, AI j] [] (KS r d, h, R) = some (.inl (AI (tr w t j)), (KS r d, h, R)) := by
  subst hw
  exact s154 h1 h2
def nx0 (w : Nat → Int) (c t : Int) : Int := c + 1000 * (tr w t 2 - c / 1000)
def vdF (w : Nat → Int) (c : Int) : Int := if fb w c = -1 then 0 else 4
def vdt (w : Nat → Int) (c e : Int) : Int × Int × Int :=
  if (ch w c e).1 = 0 then (1, -1, c) else if (ch w c e).2 = -1 then (2, -1, c)
  else if tr w (ch w c e).2 6 = -1 then (vdF w (nx0 w c (ch w c e).2), (ch w c e).2, nx0 w c (ch w c e).2)
  else if 0 ≤ actV w (ch w c e).2 (vIn c (tr w (ch w c e).2 6)) ∧ actV w (ch w c e).2 (vIn c (tr w (ch w c e).2 6)) ≤ 9 then
    (vdF w (withV (nx0 w c (ch w c e).2) (tr w (ch w c e).2 6) (actV w (ch w c e).2 (vIn c (tr w (ch w c e).2 6)))), (ch w c e).2, withV (nx0 w c (ch w c e).2) (tr w (ch w c e).2 6) (actV w (ch w c e).2 (vIn c (tr w (ch w c e).2 6))))
  else (3, (ch w c e).2, c)
theorem nx0_r {c t : Int} (h1 : 0 ≤ c ∧ c ≤ 9999) (h2 : 0 ≤ tr w t 2 ∧ tr w t 2 ≤ 9) : 0 ≤ nx0 w c t ∧ nx0 w c t ≤ 9999 := by unfold nx0; omega
theorem withV_r {c i v : Int} (h1 : 0 ≤ c ∧ c ≤ 9999) (h2 : 0 ≤ v ∧ v ≤ 9) : 0 ≤ withV c i v ∧ withV c i v ≤ 9999 := by
  unfold withV vIn wt
  split
  · omega
  · split <;> omega
theorem vdt_r {c e : Int} (hf : WFt w) (h1 : 0 ≤ c ∧ c ≤ 9999) : 0 ≤ (vdt w c e).2.2 ∧ (vdt w c e).2.2 ≤ 9999 := by
  have hc := ch_r (w := w) (c := c) (e := e) hf.1.1
  unfold vdt
  split
  · exact h1
  · split
    · exact h1
    · have hT := hf.2.2 (ch w c e).2 (by omega) (by omega)
      split
      · exact nx0_r h1 hT.1
      · split
        · next q => exact withV_r (nx0_r h1 hT.1) q
        · exact h1
def setv (h : Nat → Nat → Int) (a b : Int) : Nat → Nat → Int := hput (hput h 268 8 b) 268 7 a
theorem setv_put {a b n : Int} : hput (setv h a b) 268 8 n = setv h a n := by
  unfold setv
  rw [hput_c (Or.inr (by decide)), hput_ss]
theorem setv_setv {a b c e : Int} : setv (setv h a b) c e = setv h c e := by
  show hput (hput (setv h a b) 268 8 e) 268 7 c = _
  rw [setv_put]
  unfold setv
  rw [hput_ss]
theorem setv_w {k : Nat} {a b : Int} {w : Nat → Int} (hw : h k = w) (hk : k ≠ 268) : setv h a b k = w := hput_w (hput_w hw hk) hk
set_option maxHeartbeats 4000000 in
theorem s175 {c e : Int} (hw : h 269 = w) (hf : WFt w) (h1 : 0 ≤ c ∧ c ≤ 9999) : ev 175 0 [AR 268, AI c, AI e, AU, AU, AU] [] (KS r d, h, R) = some (.inl (AI (vdt w c e).1), (KS r d, setv h (vdt w c e).2.1 (vdt w c e).2.2, R)) := by
  refine Rn.eq ?_
  have k0 := @kd_268 r d
  have hc := ch_r (w := w) (c := c) (e := e) hf.1.1
  have hf1 := hf.1
  have hv := vIn_r c (tr w (ch w c e).2 6)
  refine w_aloadn f175_0 rfl (by omega) ?_
  refine w_iloadn f175_1 rfl ?_
  refine w_putI f175_2 (by assumption) ?_
  refine w_aloadn f175_5 rfl (by omega) ?_
  refine w_iloadn f175_6 rfl ?_
  refine w_iloadn f175_7 rfl ?_
  refine w_cV f175_8 (Or.inl rfl) rfl (by omega) (okd_of (by assumption)) rfl ⟨Nat.le_of_ble_eq_true rfl, rfl, Nat.le_of_ble_eq_true rfl⟩ (en174 _ _ _) (s174 (w := w) (by repeat (first | exact hw | refine setv_w ?_ (by decide) | refine hput_w ?_ (by decide))) h1.1 hf.1) (pv174 _ _) ?_
  refine w_if_ne (t := 16) f175_11 (by decide) (fun c1 => ?_) (fun c1 => ?_)
  · refine w_aloadn f175_16 rfl (by omega) ?_
    refine w_getI f175_17 (by decide) (by assumption) (by (try simp only [hput, hcopy, Nat.reduceEqDiff, Nat.add_left_cancel_iff, Nat.add_right_cancel_iff, Nat.left_eq_add, Nat.add_eq_left, Nat.right_eq_add, Nat.add_eq_right, Nat.reduceAdd, Nat.add_zero, Nat.succ_ne_self, Nat.one_ne_zero, Nat.zero_ne_one, eq_self, and_self, and_true, true_and, and_false, false_and, if_true, if_false, reduceIte, Int.reduceToNat, Int.toNat_natCast]); exact rfl) ?_
    refine w_iconst (v := -1) f175_20 (by decide) ?_
    refine w_ic_ne (t := 26) f175_21 (by decide) (fun c2 => ?_) (fun c2 => ?_)
    · have hT := hf.2.2 (ch w c e).2 (by omega) (by omega)
      refine w_iloadn f175_26 rfl ?_
      refine w_sipush (v := 1000) f175_27 (by decide) ?_
      refine w_aloadn f175_30 rfl (by omega) ?_
      refine w_aloadn f175_31 rfl (by omega) ?_
      refine w_getI f175_32 (by decide) (by assumption) (by (try simp only [hput, hcopy, Nat.reduceEqDiff, Nat.add_left_cancel_iff, Nat.add_right_cancel_iff, Nat.left_eq_add, Nat.add_eq_left, Nat.right_eq_add, Nat.add_eq_right, Nat.reduceAdd, Nat.add_zero, Nat.succ_ne_self, Nat.one_ne_zero, Nat.zero_ne_one, eq_self, and_self, and_true, true_and, and_false, false_and, if_true, if_false, reduceIte, Int.reduceToNat, Int.toNat_natCast]); exact rfl) ?_
      refine w_iconst (v := 2) f175_35 (by decide) ?_
      refine w_cV f175_36 (Or.inl rfl) rfl (by omega) (okd_of (by assumption)) rfl ⟨Nat.le_of_ble_eq_true rfl, rfl, Nat.le_of_ble_eq_true rfl⟩ (en154 _ _ _) (s154w (w := w) (by repeat (first | exact hw | refine setv_w ?_ (by decide) | refine hput_w ?_ (by decide))) (by omega) (by decide)) (pv154 _ _) ?_
      refine w_iloadn f175_39 rfl ?_
      refine w_cS f175_40 (Or.inl rfl) (Nat.le_of_ble_eq_true rfl) rfl rfl ⟨Nat.le_of_ble_eq_true rfl, rfl, Nat.le_of_ble_eq_true rfl⟩ (en164 _) (s164 (by omega)) (pv164 _ _) ?_
      refine w_isubn f175_43 (by omega) ?_
      refine w_imuln f175_44 (by omega) ?_
      refine w_iaddn f175_45 (by omega) ?_
      refine w_istoren f175_46 (Nat.le_of_ble_eq_true rfl) (sto_6_3 rfl) ?_
      refine w_aloadn f175_47 rfl (by omega) ?_
      refine w_aloadn f175_48 rfl (by omega) ?_
      refine w_getI f175_49 (by decide) (by assumption) (by (try simp only [hput, hcopy, Nat.reduceEqDiff, Nat.add_left_cancel_iff, Nat.add_right_cancel_iff, Nat.left_eq_add, Nat.add_eq_left, Nat.right_eq_add, Nat.add_eq_right, Nat.reduceAdd, Nat.add_zero, Nat.succ_ne_self, Nat.one_ne_zero, Nat.zero_ne_one, eq_self, and_self, and_true, true_and, and_false, false_and, if_true, if_false, reduceIte, Int.reduceToNat, Int.toNat_natCast]); exact rfl) ?_
      refine w_bipush (v := 6) f175_52 (by decide) ?_
      refine w_cV f175_54 (Or.inl rfl) rfl (by omega) (okd_of (by assumption)) rfl ⟨Nat.le_of_ble_eq_true rfl, rfl, Nat.le_of_ble_eq_true rfl⟩ (en154 _ _ _) (s154w (w := w) (by repeat (first | exact hw | refine setv_w ?_ (by decide) | refine hput_w ?_ (by decide))) (by omega) (by decide)) (pv154 _ _) ?_
      refine w_istore f175_57 (Nat.le_of_ble_eq_true rfl) (sto_6_4 rfl) ?_
      refine w_iload f175_59 rfl ?_
      refine w_iconst (v := -1) f175_61 (by decide) ?_
      refine w_ic_eq (t := 103) f175_62 (by decide) (fun c3 => ?_) (fun c3 => ?_)
      · refine w_aloadn f175_103 rfl (by omega) ?_
        refine w_iloadn f175_104 rfl ?_
        refine w_putI f175_105 (by assumption) ?_
        refine w_aloadn f175_108 rfl (by omega) ?_
        refine w_iloadn f175_109 rfl ?_
        refine w_cV f175_110 (Or.inl rfl) rfl (by omega) (okd_of (by assumption)) rfl ⟨Nat.le_of_ble_eq_true rfl, rfl, Nat.le_of_ble_eq_true rfl⟩ (en171 _ _) (s171 (w := w) (by repeat (first | exact hw | refine setv_w ?_ (by decide) | refine hput_w ?_ (by decide))) (by first | exact (nx0_r h1 hT.1).1 | exact (withV_r (nx0_r h1 hT.1) (by assumption)).1) hf.2.1) (pv171 _ _) ?_
        refine w_iconst (v := -1) f175_113 (by decide) ?_
        refine w_ic_eq (t := 121) f175_114 (by decide) (fun c4 => ?_) (fun c4 => ?_)
        · refine w_iconst (v := 0) f175_121 (by decide) ?_
          refine w_iret f175_122 rfl ?_
          first | (rw [show vdt w c e = (0, (ch w c e).2, c + 1000 * (tr w (ch w c e).2 2 - c / 1000)) from by unfold vdt vdF nx0; rw [if_neg c1, if_neg c2, if_pos c3, if_pos c4]]; exact congrArg (fun z => ((Sum.inl (AI 0), (KS r d, z, R)) : Out)) setv_put) | (rw [show vdt w c e = (4, (ch w c e).2, c + 1000 * (tr w (ch w c e).2 2 - c / 1000)) from by unfold vdt vdF nx0; rw [if_neg c1, if_neg c2, if_pos c3, if_neg c4]]; exact congrArg (fun z => ((Sum.inl (AI 4), (KS r d, z, R)) : Out)) setv_put) | (rw [show vdt w c e = (0, (ch w c e).2, withV (c + 1000 * (tr w (ch w c e).2 2 - c / 1000)) (tr w (ch w c e).2 6) (actV w (ch w c e).2 (vIn c (tr w (ch w c e).2 6)))) from by unfold vdt vdF nx0; rw [if_neg c1, if_neg c2, if_neg c3, if_pos c5, if_pos c6]]; exact congrArg (fun z => ((Sum.inl (AI 0), (KS r d, z, R)) : Out)) setv_put) | (rw [show vdt w c e = (4, (ch w c e).2, withV (c + 1000 * (tr w (ch w c e).2 2 - c / 1000)) (tr w (ch w c e).2 6) (actV w (ch w c e).2 (vIn c (tr w (ch w c e).2 6)))) from by unfold vdt vdF nx0; rw [if_neg c1, if_neg c2, if_neg c3, if_pos c5, if_neg c6]]; exact congrArg (fun z => ((Sum.inl (AI 4), (KS r d, z, R)) : Out)) setv_put)
        · refine w_iconst (v := 4) f175_117 (by decide) ?_
          refine w_goto (t := 122) f175_118 (by decide) ?_
          refine w_iret f175_122 rfl ?_
          first | (rw [show vdt w c e = (0, (ch w c e).2, c + 1000 * (tr w (ch w c e).2 2 - c / 1000)) from by unfold vdt vdF nx0; rw [if_neg c1, if_neg c2, if_pos c3, if_pos c4]]; exact congrArg (fun z => ((Sum.inl (AI 0), (KS r d, z, R)) : Out)) setv_put) | (rw [show vdt w c e = (4, (ch w c e).2, c + 1000 * (tr w (ch w c e).2 2 - c / 1000)) from by unfold vdt vdF nx0; rw [if_neg c1, if_neg c2, if_pos c3, if_neg c4]]; exact congrArg (fun z => ((Sum.inl (AI 4), (KS r d, z, R)) : Out)) setv_put) | (rw [show vdt w c e = (0, (ch w c e).2, withV (c + 1000 * (tr w (ch w c e).2 2 - c / 1000)) (tr w (ch w c e).2 6) (actV w (ch w c e).2 (vIn c (tr w (ch w c e).2 6)))) from by unfold vdt vdF nx0; rw [if_neg c1, if_neg c2, if_neg c3, if_pos c5, if_pos c6]]; exact congrArg (fun z => ((Sum.inl (AI 0), (KS r d, z, R)) : Out)) setv_put) | (rw [show vdt w c e = (4, (ch w c e).2, withV (c + 1000 * (tr w (ch w c e).2 2 - c / 1000)) (tr w (ch w c e).2 6) (actV w (ch w c e).2 (vIn c (tr w (ch w c e).2 6)))) from by unfold vdt vdF nx0; rw [if_neg c1, if_neg c2, if_neg c3, if_pos c5, if_neg c6]]; exact congrArg (fun z => ((Sum.inl (AI 4), (KS r d, z, R)) : Out)) setv_put)
      · refine w_aloadn f175_65 rfl (by omega) ?_
        refine w_aloadn f175_66 rfl (by omega) ?_
        refine w_getI f175_67 (by decide) (by assumption) (by (try simp only [hput, hcopy, Nat.reduceEqDiff, Nat.add_left_cancel_iff, Nat.add_right_cancel_iff, Nat.left_eq_add, Nat.add_eq_left, Nat.right_eq_add, Nat.add_eq_right, Nat.reduceAdd, Nat.add_zero, Nat.succ_ne_self, Nat.one_ne_zero, Nat.zero_ne_one, eq_self, and_self, and_true, true_and, and_false, false_and, if_true, if_false, reduceIte, Int.reduceToNat, Int.toNat_natCast]); exact rfl) ?_
        refine w_iloadn f175_70 rfl ?_
        refine w_iload f175_71 rfl ?_
        refine w_cS f175_73 (Or.inl rfl) (Nat.le_of_ble_eq_true rfl) rfl rfl ⟨Nat.le_of_ble_eq_true rfl, rfl, Nat.le_of_ble_eq_true rfl⟩ (en166 _ _) (s166 (by omega)) (pv166 _ _) ?_
        refine w_cV f175_76 (Or.inl rfl) rfl (by omega) (okd_of (by assumption)) rfl ⟨Nat.le_of_ble_eq_true rfl, rfl, Nat.le_of_ble_eq_true rfl⟩ (en173 _ _ _) (s173 (w := w) (by repeat (first | exact hw | refine setv_w ?_ (by decide) | refine hput_w ?_ (by decide))) (by omega) (by omega) (hT.2 c3)) (pv173 _ _) ?_
        refine w_istore f175_79 (Nat.le_of_ble_eq_true rfl) (sto_6_5 rfl) ?_
        refine w_iload f175_81 rfl ?_
        refine w_iconst (v := 0) f175_83 (by decide) ?_
        refine w_bipush (v := 9) f175_84 (by decide) ?_
        refine w_cS f175_86 (Or.inl rfl) (Nat.le_of_ble_eq_true rfl) rfl rfl ⟨Nat.le_of_ble_eq_true rfl, rfl, Nat.le_of_ble_eq_true rfl⟩ (en148 _ _ _) (s148) (pv148 _ _) ?_
        refine w_ifb_ne (t := 94) f175_89 (by decide) (fun c5 => ?_) (fun c5 => ?_)
        · refine w_iloadn f175_94 rfl ?_
          refine w_iload f175_95 rfl ?_
          refine w_iload f175_97 rfl ?_
          refine w_cS f175_99 (Or.inl rfl) (Nat.le_of_ble_eq_true rfl) rfl rfl ⟨Nat.le_of_ble_eq_true rfl, rfl, Nat.le_of_ble_eq_true rfl⟩ (en167 _ _ _) (s167 (by have := nx0_r h1 hT.1; unfold nx0 at this; omega) (by omega)) (pv167 _ _) ?_
          refine w_istoren f175_102 (Nat.le_of_ble_eq_true rfl) (sto_6_3 rfl) ?_
          refine w_aloadn f175_103 rfl (by omega) ?_
          refine w_iloadn f175_104 rfl ?_
          refine w_putI f175_105 (by assumption) ?_
          refine w_aloadn f175_108 rfl (by omega) ?_
          refine w_iloadn f175_109 rfl ?_
          refine w_cV f175_110 (Or.inl rfl) rfl (by omega) (okd_of (by assumption)) rfl ⟨Nat.le_of_ble_eq_true rfl, rfl, Nat.le_of_ble_eq_true rfl⟩ (en171 _ _) (s171 (w := w) (by repeat (first | exact hw | refine setv_w ?_ (by decide) | refine hput_w ?_ (by decide))) (by first | exact (nx0_r h1 hT.1).1 | exact (withV_r (nx0_r h1 hT.1) (by assumption)).1) hf.2.1) (pv171 _ _) ?_
          refine w_iconst (v := -1) f175_113 (by decide) ?_
          refine w_ic_eq (t := 121) f175_114 (by decide) (fun c6 => ?_) (fun c6 => ?_)
          · refine w_iconst (v := 0) f175_121 (by decide) ?_
            refine w_iret f175_122 rfl ?_
            first | (rw [show vdt w c e = (0, (ch w c e).2, c + 1000 * (tr w (ch w c e).2 2 - c / 1000)) from by unfold vdt vdF nx0; rw [if_neg c1, if_neg c2, if_pos c3, if_pos c4]]; exact congrArg (fun z => ((Sum.inl (AI 0), (KS r d, z, R)) : Out)) setv_put) | (rw [show vdt w c e = (4, (ch w c e).2, c + 1000 * (tr w (ch w c e).2 2 - c / 1000)) from by unfold vdt vdF nx0; rw [if_neg c1, if_neg c2, if_pos c3, if_neg c4]]; exact congrArg (fun z => ((Sum.inl (AI 4), (KS r d, z, R)) : Out)) setv_put) | (rw [show vdt w c e = (0, (ch w c e).2, withV (c + 1000 * (tr w (ch w c e).2 2 - c / 1000)) (tr w (ch w c e).2 6) (actV w (ch w c e).2 (vIn c (tr w (ch w c e).2 6)))) from by unfold vdt vdF nx0; rw [if_neg c1, if_neg c2, if_neg c3, if_pos c5, if_pos c6]]; exact congrArg (fun z => ((Sum.inl (AI 0), (KS r d, z, R)) : Out)) setv_put) | (rw [show vdt w c e = (4, (ch w c e).2, withV (c + 1000 * (tr w (ch w c e).2 2 - c / 1000)) (tr w (ch w c e).2 6) (actV w (ch w c e).2 (vIn c (tr w (ch w c e).2 6)))) from by unfold vdt vdF nx0; rw [if_neg c1, if_neg c2, if_neg c3, if_pos c5, if_neg c6]]; exact congrArg (fun z => ((Sum.inl (AI 4), (KS r d, z, R)) : Out)) setv_put)
          · refine w_iconst (v := 4) f175_117 (by decide) ?_
            refine w_goto (t := 122) f175_118 (by decide) ?_
            refine w_iret f175_122 rfl ?_
            first | (rw [show vdt w c e = (0, (ch w c e).2, c + 1000 * (tr w (ch w c e).2 2 - c / 1000)) from by unfold vdt vdF nx0; rw [if_neg c1, if_neg c2, if_pos c3, if_pos c4]]; exact congrArg (fun z => ((Sum.inl (AI 0), (KS r d, z, R)) : Out)) setv_put) | (rw [show vdt w c e = (4, (ch w c e).2, c + 1000 * (tr w (ch w c e).2 2 - c / 1000)) from by unfold vdt vdF nx0; rw [if_neg c1, if_neg c2, if_pos c3, if_neg c4]]; exact congrArg (fun z => ((Sum.inl (AI 4), (KS r d, z, R)) : Out)) setv_put) | (rw [show vdt w c e = (0, (ch w c e).2, withV (c + 1000 * (tr w (ch w c e).2 2 - c / 1000)) (tr w (ch w c e).2 6) (actV w (ch w c e).2 (vIn c (tr w (ch w c e).2 6)))) from by unfold vdt vdF nx0; rw [if_neg c1, if_neg c2, if_neg c3, if_pos c5, if_pos c6]]; exact congrArg (fun z => ((Sum.inl (AI 0), (KS r d, z, R)) : Out)) setv_put) | (rw [show vdt w c e = (4, (ch w c e).2, withV (c + 1000 * (tr w (ch w c e).2 2 - c / 1000)) (tr w (ch w c e).2 6) (actV w (ch w c e).2 (vIn c (tr w (ch w c e).2 6)))) from by unfold vdt vdF nx0; rw [if_neg c1, if_neg c2, if_neg c3, if_pos c5, if_neg c6]]; exact congrArg (fun z => ((Sum.inl (AI 4), (KS r d, z, R)) : Out)) setv_put)
        · refine w_iconst (v := 3) f175_92 (by decide) ?_
          refine w_iret f175_93 rfl ?_
          rw [show vdt w c e = (3, (ch w c e).2, c) from by unfold vdt; rw [if_neg c1, if_neg c2, if_neg c3, if_neg c5]]; rfl
    · refine w_iconst (v := 2) f175_24 (by decide) ?_
      refine w_iret f175_25 rfl ?_
      rw [show vdt w c e = (2, -1, c) from by unfold vdt; rw [if_neg c1, if_pos c2], c2]; rfl
  · refine w_iconst (v := 1) f175_14 (by decide) ?_
    refine w_iret f175_15 rfl ?_
    rw [show vdt w c e = (1, -1, c) from by unfold vdt; rw [if_pos c1], hc.2.1 c1]; rfl
def hereW (w : Nat → Int) : Int := 1000 * w 5 + w 6 + 10 * w 7 + 100 * w 8
/-- the current configuration's numbers are in their ranges -/
def WFc (w : Nat → Int) : Prop := (0 ≤ w 5 ∧ w 5 ≤ 9) ∧ (0 ≤ w 6 ∧ w 6 ≤ 9) ∧ (0 ≤ w 7 ∧ w 7 ≤ 9) ∧ (0 ≤ w 8 ∧ w 8 ≤ 9)
theorem hereW_r (hc : WFc w) : 0 ≤ hereW w ∧ hereW w ≤ 9999 := by
  obtain ⟨a1, a2, a3, a4⟩ := hc
  unfold hereW
  omega
theorem s162 (hw : h 269 = w) (hc : WFc w) : ev 162 0 [AR 268] [] (KS r d, h, R) = some (.inl (AI (hereW w)), (KS r d, h, R)) := by
  refine Rn.eq ?_
  have k0 := @kd_268 r d
  have k1 := @kd_269 r d
  obtain ⟨a1, a2, a3, a4⟩ := hc
  refine w_sipush (v := 1000) f162_0 (by decide) ?_
  refine w_aloadn f162_3 rfl (by omega) ?_
  refine w_getR f162_4 (by assumption) rfl (by omega) ?_
  refine w_iconst (v := 5) f162_7 (by decide) ?_
  refine w_iald f162_8 (by assumption) (by omega) (by (try simp only [hput, hcopy, Nat.reduceEqDiff, Nat.add_left_cancel_iff, Nat.add_right_cancel_iff, Nat.left_eq_add, Nat.add_eq_left, Nat.right_eq_add, Nat.add_eq_right, Nat.reduceAdd, Nat.add_zero, Nat.succ_ne_self, Nat.one_ne_zero, Nat.zero_ne_one, eq_self, and_self, and_true, true_and, and_false, false_and, if_true, if_false, reduceIte, Int.reduceToNat, Int.toNat_natCast, hw]); exact rfl) ?_
  refine w_imuln f162_9 (by omega) ?_
  refine w_aloadn f162_10 rfl (by omega) ?_
  refine w_getR f162_11 (by assumption) rfl (by omega) ?_
  refine w_bipush (v := 6) f162_14 (by decide) ?_
  refine w_iald f162_16 (by assumption) (by omega) (by (try simp only [hput, hcopy, Nat.reduceEqDiff, Nat.add_left_cancel_iff, Nat.add_right_cancel_iff, Nat.left_eq_add, Nat.add_eq_left, Nat.right_eq_add, Nat.add_eq_right, Nat.reduceAdd, Nat.add_zero, Nat.succ_ne_self, Nat.one_ne_zero, Nat.zero_ne_one, eq_self, and_self, and_true, true_and, and_false, false_and, if_true, if_false, reduceIte, Int.reduceToNat, Int.toNat_natCast, hw]); exact rfl) ?_
  refine w_iaddn f162_17 (by omega) ?_
  refine w_bipush (v := 10) f162_18 (by decide) ?_
  refine w_aloadn f162_20 rfl (by omega) ?_
  refine w_getR f162_21 (by assumption) rfl (by omega) ?_
  refine w_bipush (v := 7) f162_24 (by decide) ?_
  refine w_iald f162_26 (by assumption) (by omega) (by (try simp only [hput, hcopy, Nat.reduceEqDiff, Nat.add_left_cancel_iff, Nat.add_right_cancel_iff, Nat.left_eq_add, Nat.add_eq_left, Nat.right_eq_add, Nat.add_eq_right, Nat.reduceAdd, Nat.add_zero, Nat.succ_ne_self, Nat.one_ne_zero, Nat.zero_ne_one, eq_self, and_self, and_true, true_and, and_false, false_and, if_true, if_false, reduceIte, Int.reduceToNat, Int.toNat_natCast, hw]); exact rfl) ?_
  refine w_imuln f162_27 (by omega) ?_
  refine w_iaddn f162_28 (by omega) ?_
  refine w_bipush (v := 100) f162_29 (by decide) ?_
  refine w_aloadn f162_31 rfl (by omega) ?_
  refine w_getR f162_32 (by assumption) rfl (by omega) ?_
  refine w_bipush (v := 8) f162_35 (by decide) ?_
  refine w_iald f162_37 (by assumption) (by omega) (by (try simp only [hput, hcopy, Nat.reduceEqDiff, Nat.add_left_cancel_iff, Nat.add_right_cancel_iff, Nat.left_eq_add, Nat.add_eq_left, Nat.right_eq_add, Nat.add_eq_right, Nat.reduceAdd, Nat.add_zero, Nat.succ_ne_self, Nat.one_ne_zero, Nat.zero_ne_one, eq_self, and_self, and_true, true_and, and_false, false_and, if_true, if_false, reduceIte, Int.reduceToNat, Int.toNat_natCast, hw]); exact rfl) ?_
  refine w_imuln f162_38 (by omega) ?_
  refine w_iaddn f162_39 (by omega) ?_
  refine w_iret f162_40 rfl ?_
  exact rfl
def startW (w : Nat → Int) : Int := w 9 + 10 * w 10 + 100 * w 11
theorem s163 (hw : h 269 = w) (hc : (0 ≤ w 9 ∧ w 9 ≤ 9) ∧ (0 ≤ w 10 ∧ w 10 ≤ 9) ∧ (0 ≤ w 11 ∧ w 11 ≤ 9)) : ev 163 0 [AR 268] [] (KS r d, h, R) = some (.inl (AI (startW w)), (KS r d, h, R)) := by
  refine Rn.eq ?_
  have k0 := @kd_268 r d
  have k1 := @kd_269 r d
  obtain ⟨a2, a3, a4⟩ := hc
  refine w_aloadn f163_0 rfl (by omega) ?_
  refine w_getR f163_1 (by assumption) rfl (by omega) ?_
  refine w_bipush (v := 9) f163_4 (by decide) ?_
  refine w_iald f163_6 (by assumption) (by omega) (by (try simp only [hput, hcopy, Nat.reduceEqDiff, Nat.add_left_cancel_iff, Nat.add_right_cancel_iff, Nat.left_eq_add, Nat.add_eq_left, Nat.right_eq_add, Nat.add_eq_right, Nat.reduceAdd, Nat.add_zero, Nat.succ_ne_self, Nat.one_ne_zero, Nat.zero_ne_one, eq_self, and_self, and_true, true_and, and_false, false_and, if_true, if_false, reduceIte, Int.reduceToNat, Int.toNat_natCast, hw]); exact rfl) ?_
  refine w_bipush (v := 10) f163_7 (by decide) ?_
  refine w_aloadn f163_9 rfl (by omega) ?_
  refine w_getR f163_10 (by assumption) rfl (by omega) ?_
  refine w_bipush (v := 10) f163_13 (by decide) ?_
  refine w_iald f163_15 (by assumption) (by omega) (by (try simp only [hput, hcopy, Nat.reduceEqDiff, Nat.add_left_cancel_iff, Nat.add_right_cancel_iff, Nat.left_eq_add, Nat.add_eq_left, Nat.right_eq_add, Nat.add_eq_right, Nat.reduceAdd, Nat.add_zero, Nat.succ_ne_self, Nat.one_ne_zero, Nat.zero_ne_one, eq_self, and_self, and_true, true_and, and_false, false_and, if_true, if_false, reduceIte, Int.reduceToNat, Int.toNat_natCast, hw]); exact rfl) ?_
  refine w_imuln f163_16 (by omega) ?_
  refine w_iaddn f163_17 (by omega) ?_
  refine w_bipush (v := 100) f163_18 (by decide) ?_
  refine w_aloadn f163_20 rfl (by omega) ?_
  refine w_getR f163_21 (by assumption) rfl (by omega) ?_
  refine w_bipush (v := 11) f163_24 (by decide) ?_
  refine w_iald f163_26 (by assumption) (by omega) (by (try simp only [hput, hcopy, Nat.reduceEqDiff, Nat.add_left_cancel_iff, Nat.add_right_cancel_iff, Nat.left_eq_add, Nat.add_eq_left, Nat.right_eq_add, Nat.add_eq_right, Nat.reduceAdd, Nat.add_zero, Nat.succ_ne_self, Nat.one_ne_zero, Nat.zero_ne_one, eq_self, and_self, and_true, true_and, and_false, false_and, if_true, if_false, reduceIte, Int.reduceToNat, Int.toNat_natCast, hw]); exact rfl) ?_
  refine w_imuln f163_27 (by omega) ?_
  refine w_iaddn f163_28 (by omega) ?_
  refine w_iret f163_29 rfl ?_
  exact rfl
theorem s182 {i v : Int} (hw : h 269 = w) (hf : WFt w) (hc : WFc w) (hv : 0 ≤ v ∧ v ≤ 9) : ev 182 0 [AR 268, AI i, AI v] [] (KS r d, h, R) = some (.inl (AI (b2i (fb w (withV (hereW w) i v) = -1))), (KS r d, h, R)) := by
  refine Rn.eq ?_
  have k0 := @kd_268 r d
  have h1 := hereW_r hc
  refine w_aloadn f182_0 rfl (by omega) ?_
  refine w_aloadn f182_1 rfl (by omega) ?_
  refine w_cV f182_2 (Or.inl rfl) rfl (by omega) (okd_of (by assumption)) rfl ⟨Nat.le_of_ble_eq_true rfl, rfl, Nat.le_of_ble_eq_true rfl⟩ (en162 _) (s162 hw hc) (pv162 _ _) ?_
  refine w_iloadn f182_5 rfl ?_
  refine w_iloadn f182_6 rfl ?_
  refine w_cS f182_7 (Or.inl rfl) (Nat.le_of_ble_eq_true rfl) rfl rfl ⟨Nat.le_of_ble_eq_true rfl, rfl, Nat.le_of_ble_eq_true rfl⟩ (en167 _ _ _) (s167 (by omega) hv) (pv167 _ _) ?_
  refine w_cV f182_10 (Or.inl rfl) rfl (by omega) (okd_of (by assumption)) rfl ⟨Nat.le_of_ble_eq_true rfl, rfl, Nat.le_of_ble_eq_true rfl⟩ (en171 _ _) (s171 hw (withV_r h1 hv).1 hf.2.1) (pv171 _ _) ?_
  refine w_iconst (v := -1) f182_13 (by decide) ?_
  refine w_ic_ne (t := 21) f182_14 (by decide) (fun c1 => ?_) (fun c1 => ?_)
  · refine w_iconst (v := 0) f182_21 (by decide) ?_
    refine w_zret f182_22 rfl (by decide) ?_
    first | exact ob_t c1 | exact ob_f c1
  · refine w_iconst (v := 1) f182_17 (by decide) ?_
    refine w_goto (t := 22) f182_18 (by decide) ?_
    refine w_zret f182_22 rfl (by decide) ?_
    first | exact ob_t c1 | exact ob_f c1
end A

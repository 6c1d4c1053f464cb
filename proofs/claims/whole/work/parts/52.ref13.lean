/-! the reference's fire, copies, undo's rows -/
section A
variable {K : List AKd} {h : Nat → Nat → Int} {R : R4} {σ : Sg} {r d : Nat} {w : Nat → Int}
theorem vdF_r {c : Int} : vdF w c = 0 ∨ vdF w c = 4 := by
  unfold vdF
  split
  · exact Or.inl rfl
  · exact Or.inr rfl
theorem vdt_v {c e : Int} (h3 : 0 ≤ w 3) : (0 ≤ (vdt w c e).1 ∧ (vdt w c e).1 ≤ 4) ∧ ((vdt w c e).1 = 0 → 0 ≤ (vdt w c e).2.1 ∧ (vdt w c e).2.1 < w 3 ∧ tr w (vdt w c e).2.1 0 = c / 1000 ∧ tr w (vdt w c e).2.1 1 = e) := by
  have hc := ch_r (w := w) (c := c) (e := e) h3
  unfold vdt
  split
  · exact ⟨⟨show (0 : Int) ≤ 1 by decide, show (1 : Int) ≤ 4 by decide⟩, fun z => absurd z (show ¬ (1 : Int) = 0 by decide)⟩
  · split
    · exact ⟨⟨show (0 : Int) ≤ 2 by decide, show (2 : Int) ≤ 4 by decide⟩, fun z => absurd z (show ¬ (2 : Int) = 0 by decide)⟩
    · next q =>
      have g := hc.2.2.resolve_left q
      split
      · have := vdF_r (w := w) (c := nx0 w c (ch w c e).2)
        exact ⟨⟨by show 0 ≤ vdF w _; omega, by show vdF w _ ≤ 4; omega⟩, fun _ => g⟩
      · split
        · have := vdF_r (w := w) (c := withV (nx0 w c (ch w c e).2) (tr w (ch w c e).2 6) (actV w (ch w c e).2 (vIn c (tr w (ch w c e).2 6))))
          exact ⟨⟨by show 0 ≤ vdF w _; omega, by show vdF w _ ≤ 4; omega⟩, fun _ => g⟩
        · exact ⟨⟨show (0 : Int) ≤ 3 by decide, show (3 : Int) ≤ 4 by decide⟩, fun z => absurd z (show ¬ (3 : Int) = 0 by decide)⟩
def rejW (w : Nat → Int) (v : Int) : Nat → Int := udI (udI w (12 + v).toNat (wr (w (12 + v).toNat + 1))) 17 (wr (w 17 + 1))
def ac0W (w : Nat → Int) (nx t : Int) : Nat → Int := udI (udI (udI (udI (udI (udI (udI w 5 (nx / 1000)) 6 (vIn nx 0)) 7 (vIn nx 1)) 8 (vIn nx 2)) 12 (wr (w 12 + 1))) (69 + t).toNat (wr (w (69 + t).toNat + 1))) (59 + nx / 1000).toNat (wr (w (59 + nx / 1000).toNat + 1))
def firW (w : Nat → Int) (e : Int) : Nat → Int := if (vdt w (hereW w) e).1 = 0 then trcW (ac0W w (vdt w (hereW w) e).2.2 (vdt w (hereW w) e).2.1) e (vdt w (hereW w) e).2.1 else rejW w (vdt w (hereW w) e).1
set_option maxHeartbeats 4000000 in
theorem s181 {e : Int} (hw : h 269 = w) (hf : WFt w) (hc : WFc w) (h8 : 0 ≤ w 18 ∧ w 18 ≤ 20) : Rn (ev 181 0 [AR 268, AI e, AU, AU] [] (KS r d, h, R)) (fun q => ∃ h1, Ch h (firW w e) h1 ∧ q = (.inl (AI (vdt w (hereW w) e).1), (KS r d, h1, R))) := by
  have k0 := @kd_268 r d
  have k1 := @kd_269 r d
  have h1 := hereW_r hc
  have hf1 := hf.1
  obtain ⟨v1, v2⟩ := vdt_v (c := hereW w) (e := e) hf.1.1
  have hv := vdt_r (e := e) hf h1
  have e9 : ∀ a b, setv h a b 268 8 = b := fun a b => (hput_j (by decide)).trans hput_s
  have e7 : ∀ a b, setv h a b 268 7 = a := fun a b => hput_s
  have hS := @setv_S h (vdt w (hereW w) e).2.1 (vdt w (hereW w) e).2.2
  have hC := Ch.S hw hS
  refine w_aloadn f181_0 rfl (by omega) ?_
  refine w_aloadn f181_1 rfl (by omega) ?_
  refine w_cV f181_2 (Or.inl rfl) rfl (by omega) (okd_of (by assumption)) rfl ⟨Nat.le_of_ble_eq_true rfl, rfl, Nat.le_of_ble_eq_true rfl⟩ (en162 _) (s162 hw hc) (pv162 _ _) ?_
  refine w_iloadn f181_5 rfl ?_
  refine w_cV f181_6 (Or.inl rfl) rfl (by omega) (okd_of (by assumption)) rfl ⟨Nat.le_of_ble_eq_true rfl, rfl, Nat.le_of_ble_eq_true rfl⟩ (en175 _ _ _) (s175 hw hf h1) (pv175 _ _) ?_
  refine w_istoren f181_9 (Nat.le_of_ble_eq_true rfl) (sto_4_2 rfl) ?_
  refine w_iloadn f181_10 rfl ?_
  refine w_if_eq (t := 40) f181_11 (by decide) (fun c1 => ?_) (fun c1 => ?_)
  · have v3 := v2 c1
    refine w_aloadn f181_40 rfl (by omega) ?_
    refine w_getR f181_41 (by assumption) rfl (by omega) ?_
    refine w_iconst (v := 5) f181_44 (by decide) ?_
    refine w_aloadn f181_45 rfl (by omega) ?_
    refine w_getI f181_46 (by decide) (by assumption) (by exact e9 _ _) ?_
    refine w_cS f181_49 (Or.inl rfl) (Nat.le_of_ble_eq_true rfl) rfl rfl ⟨Nat.le_of_ble_eq_true rfl, rfl, Nat.le_of_ble_eq_true rfl⟩ (en164 _) (s164 hv.1) (pv164 _ _) ?_
    refine w_iast f181_52 (by assumption) (by omega) ?_
    refine w_iconst (v := 0) f181_53 (by decide) ?_
    refine w_istoren f181_54 (Nat.le_of_ble_eq_true rfl) (sto_4_3 rfl) ?_
    refine w_iloadn f181_55 rfl ?_
    refine w_iconst (v := 3) f181_56 (by decide) ?_
    refine w_ic_ge (t := 83) f181_57 (by decide) (fun e9 => absurd e9 (by decide)) (fun _ => ?_)
    refine w_aloadn f181_60 rfl (by omega) ?_
    refine w_getR f181_61 (by assumption) rfl (by omega) ?_
    refine w_bipush (v := 6) f181_64 (by decide) ?_
    refine w_iloadn f181_66 rfl ?_
    refine w_iaddc (v := 6) f181_67 (by decide) ?_
    refine w_aloadn f181_68 rfl (by omega) ?_
    refine w_getI f181_69 (by decide) (by assumption) (by repeat (first | exact hput_s | (apply Eq.trans (hput_k (by first | decide | omega))) | (apply Eq.trans (hput_j (by first | decide | omega))) | exact rfl)) ?_
    refine w_iloadn f181_72 rfl ?_
    refine w_cS f181_73 (Or.inl rfl) (Nat.le_of_ble_eq_true rfl) rfl rfl ⟨Nat.le_of_ble_eq_true rfl, rfl, Nat.le_of_ble_eq_true rfl⟩ (en166 _ _) (s166 hv.1) (pv166 _ _) ?_
    refine w_iast f181_76 (by assumption) (by omega) ?_
    refine w_iincc (v := 1) f181_77 rfl (by decide) (sto_4_3 rfl) ?_
    refine w_goto (t := 55) f181_80 (by decide) ?_
    refine w_iloadn f181_55 rfl ?_
    refine w_iconst (v := 3) f181_56 (by decide) ?_
    refine w_ic_ge (t := 83) f181_57 (by decide) (fun e9 => absurd e9 (by decide)) (fun _ => ?_)
    refine w_aloadn f181_60 rfl (by omega) ?_
    refine w_getR f181_61 (by assumption) rfl (by omega) ?_
    refine w_bipush (v := 6) f181_64 (by decide) ?_
    refine w_iloadn f181_66 rfl ?_
    refine w_iaddc (v := 7) f181_67 (by decide) ?_
    refine w_aloadn f181_68 rfl (by omega) ?_
    refine w_getI f181_69 (by decide) (by assumption) (by repeat (first | exact hput_s | (apply Eq.trans (hput_k (by first | decide | omega))) | (apply Eq.trans (hput_j (by first | decide | omega))) | exact rfl)) ?_
    refine w_iloadn f181_72 rfl ?_
    refine w_cS f181_73 (Or.inl rfl) (Nat.le_of_ble_eq_true rfl) rfl rfl ⟨Nat.le_of_ble_eq_true rfl, rfl, Nat.le_of_ble_eq_true rfl⟩ (en166 _ _) (s166 hv.1) (pv166 _ _) ?_
    refine w_iast f181_76 (by assumption) (by omega) ?_
    refine w_iincc (v := 2) f181_77 rfl (by decide) (sto_4_3 rfl) ?_
    refine w_goto (t := 55) f181_80 (by decide) ?_
    refine w_iloadn f181_55 rfl ?_
    refine w_iconst (v := 3) f181_56 (by decide) ?_
    refine w_ic_ge (t := 83) f181_57 (by decide) (fun e9 => absurd e9 (by decide)) (fun _ => ?_)
    refine w_aloadn f181_60 rfl (by omega) ?_
    refine w_getR f181_61 (by assumption) rfl (by omega) ?_
    refine w_bipush (v := 6) f181_64 (by decide) ?_
    refine w_iloadn f181_66 rfl ?_
    refine w_iaddc (v := 8) f181_67 (by decide) ?_
    refine w_aloadn f181_68 rfl (by omega) ?_
    refine w_getI f181_69 (by decide) (by assumption) (by repeat (first | exact hput_s | (apply Eq.trans (hput_k (by first | decide | omega))) | (apply Eq.trans (hput_j (by first | decide | omega))) | exact rfl)) ?_
    refine w_iloadn f181_72 rfl ?_
    refine w_cS f181_73 (Or.inl rfl) (Nat.le_of_ble_eq_true rfl) rfl rfl ⟨Nat.le_of_ble_eq_true rfl, rfl, Nat.le_of_ble_eq_true rfl⟩ (en166 _ _) (s166 hv.1) (pv166 _ _) ?_
    refine w_iast f181_76 (by assumption) (by omega) ?_
    refine w_iincc (v := 3) f181_77 rfl (by decide) (sto_4_3 rfl) ?_
    refine w_goto (t := 55) f181_80 (by decide) ?_
    refine w_iloadn f181_55 rfl ?_
    refine w_iconst (v := 3) f181_56 (by decide) ?_
    refine w_ic_ge (t := 83) f181_57 (by decide) (fun _ => ?_) (fun e9 => absurd e9 (by decide))
    refine w_aloadn f181_83 rfl (by omega) ?_
    refine w_getR f181_84 (by assumption) rfl (by omega) ?_
    refine w_bipush (v := 12) f181_87 (by decide) ?_
    refine w_dup2 f181_89 rfl ?_
    refine w_iald f181_90 (by assumption) (by omega) (by repeat (first | exact hput_s | (apply Eq.trans (hput_k (by first | decide | omega))) | (apply Eq.trans (hput_j (by first | decide | omega))) | exact congrFun hw _ | exact rfl)) ?_
    refine w_iconst (v := 1) f181_91 (by decide) ?_
    refine w_iadd f181_92 ?_
    refine w_iast f181_93 (by assumption) (by omega) ?_
    refine w_aloadn f181_94 rfl (by omega) ?_
    refine w_getR f181_95 (by assumption) rfl (by omega) ?_
    refine w_bipush (v := 69) f181_98 (by decide) ?_
    refine w_aloadn f181_100 rfl (by omega) ?_
    refine w_getI f181_101 (by decide) (by assumption) (by repeat (first | exact hput_s | (apply Eq.trans (hput_k (by first | decide | omega))) | (apply Eq.trans (hput_j (by first | decide | omega))) | exact rfl)) ?_
    refine w_iaddn f181_104 (by omega) ?_
    refine w_dup2 f181_105 rfl ?_
    refine w_iald f181_106 (by assumption) (by omega) (by repeat (first | exact hput_s | (apply Eq.trans (hput_k (by first | decide | omega))) | (apply Eq.trans (hput_j (by first | decide | omega))) | exact congrFun hw _ | exact rfl)) ?_
    refine w_iconst (v := 1) f181_107 (by decide) ?_
    refine w_iadd f181_108 ?_
    refine w_iast f181_109 (by assumption) (by omega) ?_
    refine w_aloadn f181_110 rfl (by omega) ?_
    refine w_getR f181_111 (by assumption) rfl (by omega) ?_
    refine w_bipush (v := 59) f181_114 (by decide) ?_
    refine w_aloadn f181_116 rfl (by omega) ?_
    refine w_getR f181_117 (by assumption) rfl (by omega) ?_
    refine w_iconst (v := 5) f181_120 (by decide) ?_
    refine w_iald f181_121 (by assumption) (by omega) (by repeat (first | exact hput_s | (apply Eq.trans (hput_k (by first | decide | omega))) | (apply Eq.trans (hput_j (by first | decide | omega))) | exact congrFun hw _ | exact rfl)) ?_
    refine w_iaddn f181_122 (by omega) ?_
    refine w_dup2 f181_123 rfl ?_
    refine w_iald f181_124 (by assumption) (by omega) (by repeat (first | exact hput_s | (apply Eq.trans (hput_k (by first | decide | omega))) | (apply Eq.trans (hput_j (by first | decide | omega))) | exact congrFun hw _ | exact rfl)) ?_
    refine w_iconst (v := 1) f181_125 (by decide) ?_
    refine w_iadd f181_126 ?_
    refine w_iast f181_127 (by assumption) (by omega) ?_
    refine w_aloadn f181_128 rfl (by omega) ?_
    refine w_iloadn f181_129 rfl ?_
    refine w_aloadn f181_130 rfl (by omega) ?_
    refine w_getI f181_131 (by decide) (by assumption) (by repeat (first | exact hput_s | (apply Eq.trans (hput_k (by first | decide | omega))) | (apply Eq.trans (hput_j (by first | decide | omega))) | exact rfl)) ?_
    have hC2 : Ch h (ac0W w (vdt w (hereW w) e).2.2 (vdt w (hereW w) e).2.1) _ := ((((((hC.put (j := 5) (v := (vdt w (hereW w) e).2.2 / 1000)).put (j := 6) (v := vIn (vdt w (hereW w) e).2.2 0)).put (j := 7) (v := vIn (vdt w (hereW w) e).2.2 1)).put (j := 8) (v := vIn (vdt w (hereW w) e).2.2 2)).put (j := 12) (v := wr (w 12 + 1))).put (j := (69 + (vdt w (hereW w) e).2.1).toNat) (v := wr (w (69 + (vdt w (hereW w) e).2.1).toNat + 1))).put (j := (59 + (vdt w (hereW w) e).2.2 / 1000).toNat) (v := wr (w (59 + (vdt w (hereW w) e).2.2 / 1000).toNat + 1))
    have e18 : ac0W w (vdt w (hereW w) e).2.2 (vdt w (hereW w) e).2.1 18 = w 18 := by
      unfold ac0W udI
      rw [if_neg (by omega), if_neg (by omega), if_neg (by omega), if_neg (by omega), if_neg (by omega), if_neg (by omega), if_neg (by omega)]
    refine w_qV f181_134 (Or.inl rfl) rfl (by omega) (okd_of (by assumption)) rfl ⟨Nat.le_of_ble_eq_true rfl, rfl, Nat.le_of_ble_eq_true rfl⟩ (en180 _ _ _) (s180 (h0 := h) (by rw [e18]; exact h8) hC2) (fun o9 ho9 => ?_)
    obtain ⟨h5, q5, rfl⟩ := ho9
    refine w_bok (pv180 _ _) ?_
    refine w_iloadn f181_137 rfl ?_
    refine w_iret f181_138 rfl ?_
    exact ⟨_, q5.ex (by unfold firW; rw [if_pos c1]), rfl⟩
  · refine w_aloadn f181_14 rfl (by omega) ?_
    refine w_getR f181_15 (by assumption) rfl (by omega) ?_
    refine w_bipush (v := 12) f181_18 (by decide) ?_
    refine w_iloadn f181_20 rfl ?_
    refine w_iaddn f181_21 (by omega) ?_
    refine w_dup2 f181_22 rfl ?_
    refine w_iald f181_23 (by assumption) (by omega) (by repeat (first | exact hput_s | (apply Eq.trans (hput_k (by first | decide | omega))) | (apply Eq.trans (hput_j (by first | decide | omega))) | exact congrFun hw _ | exact rfl)) ?_
    refine w_iconst (v := 1) f181_24 (by decide) ?_
    refine w_iadd f181_25 ?_
    refine w_iast f181_26 (by assumption) (by omega) ?_
    refine w_aloadn f181_27 rfl (by omega) ?_
    refine w_getR f181_28 (by assumption) rfl (by omega) ?_
    refine w_bipush (v := 17) f181_31 (by decide) ?_
    refine w_dup2 f181_33 rfl ?_
    refine w_iald f181_34 (by assumption) (by omega) (by repeat (first | exact hput_s | (apply Eq.trans (hput_k (by first | decide | omega))) | (apply Eq.trans (hput_j (by first | decide | omega))) | exact congrFun hw _ | exact rfl)) ?_
    refine w_iconst (v := 1) f181_35 (by decide) ?_
    refine w_iadd f181_36 ?_
    refine w_iast f181_37 (by assumption) (by omega) ?_
    refine w_iloadn f181_38 rfl ?_
    refine w_iret f181_39 rfl ?_
    exact ⟨_, (hC.put.put).ex (by unfold firW rejW; rw [if_neg c1]; rfl), rfl⟩
end A

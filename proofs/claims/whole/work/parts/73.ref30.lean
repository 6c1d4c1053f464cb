/-! the reference runs a script -/
section A
variable {K : List AKd} {h : Nat → Nat → Int} {R : R4} {σ : Sg} {r d : Nat} {w : Nat → Int} {b : Nat → Int} {n : Int}
theorem vdt_0 {c e : Int} : 0 ≤ (vdt w c e).1 := by
  have z : ∀ x, 0 ≤ vdF w x := fun x => by unfold vdF; split <;> omega
  unfold vdt
  split
  · exact (by omega : (0 : Int) ≤ 1)
  · split
    · exact (by omega : (0 : Int) ≤ 2)
    · split
      · exact z _
      · split
        · exact z _
        · exact (by omega : (0 : Int) ≤ 3)
/-- what a statement does -/
def doW (w : Nat → Int) (x a c : Int) : Int × (Nat → Int) := if x = 1 then (1, firW w a) else if x = 2 then (if fb w (withV (hereW w) a c) = -1 then (1, udI w (6 + a).toNat c) else (0, w)) else if x = 3 then (1, g2sW w) else (1, clrW w)
theorem doW1 {x a c : Int} (h : x = 1) : doW w x a c = (1, firW w a) := if_pos h
theorem doW2 {x a c : Int} (h : x = 2) (g : fb w (withV (hereW w) a c) = -1) : doW w x a c = (1, udI w (6 + a).toNat c) := by
  unfold doW
  rw [if_neg (by omega), if_pos h, if_pos g]
theorem doW2f {x a c : Int} (h : x = 2) (g : ¬ fb w (withV (hereW w) a c) = -1) : doW w x a c = (0, w) := by
  unfold doW
  rw [if_neg (by omega), if_pos h, if_neg g]
theorem doW3 {x a c : Int} (h : x = 3) : doW w x a c = (1, g2sW w) := by
  unfold doW
  rw [if_neg (by omega), if_neg (by omega), if_pos h]
theorem doW4 {x a c : Int} (h : x < 1 ∨ 3 < x) : doW w x a c = (1, clrW w) := by
  unfold doW
  rw [if_neg (by omega), if_neg (by omega), if_neg (by omega)]
theorem s219 {L : SL} {k : Nat} (hw : h 269 = w) (hL : SLr L h) (hk : (k : Int) < L.2.2.2) (h30 : L.2.2.2 ≤ 30) (hf : WFt w) (hc : WFc w) (h8 : 0 ≤ w 18 ∧ w 18 ≤ 20) (h12 : 0 ≤ w 12) (h2 : L.1 k = 2 → (0 ≤ L.2.1 k ∧ L.2.1 k ≤ 2) ∧ (0 ≤ L.2.2.1 k ∧ L.2.2.1 k ≤ 9)) :
    Rn (ev 219 0 [AR 268, AI k, AU, AU] [] (KS r d, h, R)) (fun q => ∃ h1, Ch h (doW w (L.1 k) (L.2.1 k) (L.2.2.1 k)).2 h1 ∧ q = (.inl (AI (doW w (L.1 k) (L.2.1 k) (L.2.2.1 k)).1), (KS r d, h1, R))) := by
  have k0 := @kd_268 r d
  have k1 := @kd_277 r d
  have k2 := @kd_278 r d
  obtain ⟨b1, b2, b3⟩ := hL.2 k hk
  have e2 : (2 * (k : Int)).toNat = 2 * k := by omega
  have e3 : (2 * (k : Int) + 1).toNat = 2 * k + 1 := by omega
  refine w_aloadn f219_0 rfl (by omega) ?_
  refine w_getR f219_1 (by assumption) rfl (by omega) ?_
  refine w_iconst (v := 2) f219_4 (by decide) ?_
  refine w_iloadn f219_5 rfl ?_
  refine w_imuln f219_6 (by omega) ?_
  refine w_iald f219_7 (by assumption) (by omega) (by (try simp only [hput, hcopy, Nat.reduceEqDiff, Nat.add_left_cancel_iff, Nat.add_right_cancel_iff, Nat.left_eq_add, Nat.add_eq_left, Nat.right_eq_add, Nat.add_eq_right, Nat.reduceAdd, Nat.add_zero, Nat.succ_ne_self, Nat.one_ne_zero, Nat.zero_ne_one, eq_self, and_self, and_true, true_and, and_false, false_and, if_true, if_false, reduceIte, Int.reduceToNat, Int.toNat_natCast, e2, e3, b1, b2, b3]); exact rfl) ?_
  refine w_istoren f219_8 (Nat.le_of_ble_eq_true rfl) (sto_4_2 rfl) ?_
  refine w_aloadn f219_9 rfl (by omega) ?_
  refine w_getR f219_10 (by assumption) rfl (by omega) ?_
  refine w_iconst (v := 2) f219_13 (by decide) ?_
  refine w_iloadn f219_14 rfl ?_
  refine w_imuln f219_15 (by omega) ?_
  refine w_iconst (v := 1) f219_16 (by decide) ?_
  refine w_iaddn f219_17 (by omega) ?_
  refine w_iald f219_18 (by assumption) (by omega) (by (try simp only [hput, hcopy, Nat.reduceEqDiff, Nat.add_left_cancel_iff, Nat.add_right_cancel_iff, Nat.left_eq_add, Nat.add_eq_left, Nat.right_eq_add, Nat.add_eq_right, Nat.reduceAdd, Nat.add_zero, Nat.succ_ne_self, Nat.one_ne_zero, Nat.zero_ne_one, eq_self, and_self, and_true, true_and, and_false, false_and, if_true, if_false, reduceIte, Int.reduceToNat, Int.toNat_natCast, e2, e3, b1, b2, b3]); exact rfl) ?_
  refine w_istoren f219_19 (Nat.le_of_ble_eq_true rfl) (sto_4_3 rfl) ?_
  refine w_aloadn f219_20 rfl (by omega) ?_
  refine w_getR f219_21 (by assumption) rfl (by omega) ?_
  refine w_iloadn f219_24 rfl ?_
  refine w_iald f219_25 (by assumption) (by omega) (by (try simp only [hput, hcopy, Nat.reduceEqDiff, Nat.add_left_cancel_iff, Nat.add_right_cancel_iff, Nat.left_eq_add, Nat.add_eq_left, Nat.right_eq_add, Nat.add_eq_right, Nat.reduceAdd, Nat.add_zero, Nat.succ_ne_self, Nat.one_ne_zero, Nat.zero_ne_one, eq_self, and_self, and_true, true_and, and_false, false_and, if_true, if_false, reduceIte, Int.reduceToNat, Int.toNat_natCast, e2, e3, b1, b2, b3]); exact rfl) ?_
  rcases (show L.1 k = 1 ∨ L.1 k = 2 ∨ L.1 k = 3 ∨ (L.1 k < 1 ∨ 3 < L.1 k) by omega) with c1 | c1 | c1 | c1
  · refine w_tab (t := 52) f219_26 (by omega) (by rw [c1]; rfl) (by decide) ?_
    refine w_aloadn f219_52 rfl (by omega) ?_
    refine w_iloadn f219_53 rfl ?_
    refine w_qV f219_54 (Or.inl rfl) rfl (by omega) (okd_of (by assumption)) rfl ⟨Nat.le_of_ble_eq_true rfl, rfl, Nat.le_of_ble_eq_true rfl⟩ (en181 _ _) (s181 hw hf hc h8) (fun o9 ho9 => ?_)
    obtain ⟨h1, q1, rfl⟩ := ho9
    refine w_bok (pv181 _ _) ?_
    refine w_if_lt (t := 64) f219_57 (by decide) (fun c2 => ?_) (fun c2 => ?_)
    · refine w_iconst (v := 0) f219_64 (by decide) ?_
      refine w_zret f219_65 rfl (by decide) ?_
      first | (exfalso; have := vdt_0 (w := w) (c := hereW w) (e := L.2.1 k); omega) | (rw [doW1 c1]; exact ⟨_, q1, rfl⟩)
    · refine w_iconst (v := 1) f219_60 (by decide) ?_
      refine w_goto (t := 65) f219_61 (by decide) ?_
      refine w_zret f219_65 rfl (by decide) ?_
      first | (exfalso; have := vdt_0 (w := w) (c := hereW w) (e := L.2.1 k); omega) | (rw [doW1 c1]; exact ⟨_, q1, rfl⟩)
  · refine w_tab (t := 66) f219_26 (by omega) (by rw [c1]; rfl) (by decide) ?_
    refine w_aloadn f219_66 rfl (by omega) ?_
    refine w_iloadn f219_67 rfl ?_
    refine w_iloadn f219_68 rfl ?_
    refine w_cV f219_69 (Or.inl rfl) rfl (by omega) (okd_of (by assumption)) rfl ⟨Nat.le_of_ble_eq_true rfl, rfl, Nat.le_of_ble_eq_true rfl⟩ (en182 _ _ _) (s182 hw hf hc (h2 (by assumption)).2) (pv182 _ _) ?_
    refine w_ifb_eq (t := 88) f219_72 (by decide) (fun c3 => ?_) (fun c3 => ?_)
    · refine w_iconst (v := 0) f219_88 (by decide) ?_
      refine w_zret f219_89 rfl (by decide) ?_
      first | (exfalso; have z : 0 ≤ w (6 + L.2.1 k).toNat := (show L.2.1 k = 0 ∨ L.2.1 k = 1 ∨ L.2.1 k = 2 by have := (h2 c1).1; omega).elim (fun e => by rw [e]; exact hc.2.1.1) (fun y => y.elim (fun e => by rw [e]; exact hc.2.2.1.1) (fun e => by rw [e]; exact hc.2.2.2.1)); omega) | (rw [doW2 c1 (by assumption)]; exact ⟨_, q1, rfl⟩) | (rw [doW2f c1 (by assumption)]; exact ⟨_, Ch.rf hw, rfl⟩)
    · refine w_aloadn f219_75 rfl (by omega) ?_
      refine w_iloadn f219_76 rfl ?_
      refine w_iloadn f219_77 rfl ?_
      refine w_qV f219_78 (Or.inl rfl) rfl (by omega) (okd_of (by assumption)) rfl ⟨Nat.le_of_ble_eq_true rfl, rfl, Nat.le_of_ble_eq_true rfl⟩ (en183 _ _ _) (s183 hw (h2 (by assumption)).1) (fun o9 ho9 => ?_)
      obtain ⟨h1, q1, rfl⟩ := ho9
      refine w_bok (pv183 _ _) ?_
      refine w_if_lt (t := 88) f219_81 (by decide) (fun c4 => ?_) (fun c4 => ?_)
      · refine w_iconst (v := 0) f219_88 (by decide) ?_
        refine w_zret f219_89 rfl (by decide) ?_
        first | (exfalso; have z : 0 ≤ w (6 + L.2.1 k).toNat := (show L.2.1 k = 0 ∨ L.2.1 k = 1 ∨ L.2.1 k = 2 by have := (h2 c1).1; omega).elim (fun e => by rw [e]; exact hc.2.1.1) (fun y => y.elim (fun e => by rw [e]; exact hc.2.2.1.1) (fun e => by rw [e]; exact hc.2.2.2.1)); omega) | (rw [doW2 c1 (by assumption)]; exact ⟨_, q1, rfl⟩) | (rw [doW2f c1 (by assumption)]; exact ⟨_, Ch.rf hw, rfl⟩)
      · refine w_iconst (v := 1) f219_84 (by decide) ?_
        refine w_goto (t := 89) f219_85 (by decide) ?_
        refine w_zret f219_89 rfl (by decide) ?_
        first | (exfalso; have z : 0 ≤ w (6 + L.2.1 k).toNat := (show L.2.1 k = 0 ∨ L.2.1 k = 1 ∨ L.2.1 k = 2 by have := (h2 c1).1; omega).elim (fun e => by rw [e]; exact hc.2.1.1) (fun y => y.elim (fun e => by rw [e]; exact hc.2.2.1.1) (fun e => by rw [e]; exact hc.2.2.2.1)); omega) | (rw [doW2 c1 (by assumption)]; exact ⟨_, q1, rfl⟩) | (rw [doW2f c1 (by assumption)]; exact ⟨_, Ch.rf hw, rfl⟩)
  · refine w_tab (t := 90) f219_26 (by omega) (by rw [c1]; rfl) (by decide) ?_
    refine w_aloadn f219_90 rfl (by omega) ?_
    refine w_qV f219_91 (Or.inl rfl) rfl (by omega) (okd_of (by assumption)) rfl ⟨Nat.le_of_ble_eq_true rfl, rfl, Nat.le_of_ble_eq_true rfl⟩ (en184 _) (s184 hw) (fun o9 ho9 => ?_)
    obtain ⟨h1, q1, rfl⟩ := ho9
    refine w_bok (pv184 _ _) ?_
    refine w_if_lt (t := 101) f219_94 (by decide) (fun c5 => ?_) (fun c5 => ?_)
    · refine w_iconst (v := 0) f219_101 (by decide) ?_
      refine w_zret f219_102 rfl (by decide) ?_
      first | (exfalso; have := hc.1.1; omega) | (rw [doW3 c1]; exact ⟨_, q1, rfl⟩)
    · refine w_iconst (v := 1) f219_97 (by decide) ?_
      refine w_goto (t := 102) f219_98 (by decide) ?_
      refine w_zret f219_102 rfl (by decide) ?_
      first | (exfalso; have := hc.1.1; omega) | (rw [doW3 c1]; exact ⟨_, q1, rfl⟩)
  · refine w_tabd (t := 103) f219_26 (by omega) (by decide) ?_
    refine w_aloadn f219_103 rfl (by omega) ?_
    refine w_qV f219_104 (Or.inl rfl) rfl (by omega) (okd_of (by assumption)) rfl ⟨Nat.le_of_ble_eq_true rfl, rfl, Nat.le_of_ble_eq_true rfl⟩ (en185 _) (s185 hw hc.1) (fun o9 ho9 => ?_)
    obtain ⟨h1, q1, rfl⟩ := ho9
    refine w_bok (pv185 _ _) ?_
    refine w_if_lt (t := 114) f219_107 (by decide) (fun c6 => ?_) (fun c6 => ?_)
    · refine w_iconst (v := 0) f219_114 (by decide) ?_
      refine w_zret f219_115 rfl (by decide) ?_
      first | (exfalso; omega) | (rw [doW4 c1]; exact ⟨_, q1, rfl⟩)
    · refine w_iconst (v := 1) f219_110 (by decide) ?_
      refine w_goto (t := 115) f219_111 (by decide) ?_
      refine w_zret f219_115 rfl (by decide) ?_
      first | (exfalso; omega) | (rw [doW4 c1]; exact ⟨_, q1, rfl⟩)
end A

/-! the law's start: the two machines are made; the law's whole run -/
section A
variable {L : Nat} {f : Nat → Int} {Q : Out → Prop} {h h1 h2 : Nat → Nat → Int} {s : Nat}
theorem hput_n {h : Nat → Nat → Int} {k j a b : Nat} {v : Int} (e : ¬ (a = k ∧ b = j)) : hput h k j v a b = h a b := if_neg e
def hz0 : Nat → Nat → Int := fun _ _ => 0
def kT : List AKd := (KS 156 212).drop 267
set_option maxRecDepth 20000 in
theorem kT_e : obs72 0 ++ kT = KS 156 212 := by decide +kernel
set_option maxRecDepth 20000 in
theorem kM_e : (obs72 0 ++ obs146 267) ++ [(22, 1, [])] = KS 156 212 := by decide +kernel
set_option maxRecDepth 20000 in
theorem k72_l : (obs72 0).length = 267 := by decide +kernel
set_option maxRecDepth 20000 in
theorem kM_l : (obs72 0 ++ obs146 267).length = 281 := by decide +kernel
theorem clK_dec {K : List AKd} {n : Nat} (h : K.all (fun e => e.2.2.all (fun r => decide (r ≤ n))) = true) : clK K n := fun e he r hr => of_decide_eq_true (List.all_eq_true.mp (List.all_eq_true.mp h e he) r hr)
set_option maxRecDepth 20000 in
theorem k72_c : clK (obs72 0) 267 := clK_dec (by decide +kernel)
set_option maxRecDepth 20000 in
theorem kM_c : clK (obs72 0 ++ obs146 267) 281 := clK_dec (by decide +kernel)
def ha0 : Nat → Nat → Int := hput (hput hz0 1 11 0) 1 12 (-1)
theorem ha0_z {x y : Nat} (e : ¬ (x = 1 ∧ y = 12)) : ha0 x y = 0 := by
  by_cases e1 : x = 1 ∧ y = 11
  · obtain ⟨rfl, rfl⟩ := e1
    exact (hput_n (by decide)).trans hput_s
  · exact (hput_n e).trans (hput_n e1)
theorem ha0_s : ha0 1 12 = -1 := hput_s
theorem ob72_1 : kdK (obs72 0) 1 = some (11, 14, [2, 4, 8, 21, 34, 140, 143, 155, 156, 212, 0, 0, 0, 0]) := rfl
theorem st72 : Rn (ev 72 0 [AR 1] [] ([(11, 14, [0, 0, 0, 0, 0, 0, 0, 0, 0, 0, 0, 0, 0, 0])], hz0, 1, s, L, f)) (fun o => ∃ h1, Q72 156 ha0 h1 ∧ o = (.inl AU, (obs72 0, h1, 267, s + 33278, L, f))) := by
  refine mk72 (K0 := []) (n := 0) rfl (fun _ _ _ => rfl) ?_
  show Rn (ev 72 111 [AR 1] [] (obs72 0, hz0, 267, s + 33278, L, f)) _
  have k1 := ob72_1
  refine w_aloadn f72_111 rfl (by omega) ?_
  refine w_iconst (v := 0) f72_112 (by decide) ?_
  refine w_putI f72_113 k1 ?_
  refine w_aloadn f72_116 rfl (by omega) ?_
  refine w_iconst (v := -1) f72_117 (by decide) ?_
  refine w_putI f72_118 k1 ?_
  show Rn (ev 72 121 [AR 1] [] (obs72 0, ha0, 267, s + 33278, L, f)) _
  refine Rn_sim (K2 := kT) (K := obs72 0) (n := 267) (P := Q72 156 ha0) ?_ k72_l k72_c (rfL_c (rfA_R (by decide)) rfL_nil) rfL_nil (by show (267 : Nat) ≠ 267 + kT.length; decide +kernel)
  rw [kT_e]
  exact n72 (r := 156) (d := 212) rfl rfl (fun x y e => ha0_z (by omega))
theorem st146 (q : Q72 156 ha0 h1) : Rn (ev 146 0 [AR 268] [] (obs72 0 ++ [(12, 31, [0, 0, 0, 0, 0, 0, 0, 0, 0, 0, 0, 0, 0, 0, 0, 0, 0, 0, 0, 0, 0, 0, 0, 0, 0, 0, 0, 0, 0, 0, 0])], h1, 268, s, L, f)) (fun o => ∃ h2, Ch (hput h1 268 15 (-1)) (ldM w00) h2 ∧ o = (.inl AU, (obs72 0 ++ obs146 267, h2, 281, s + 46406, L, f))) := by
  have hz : ∀ x y, 268 ≤ x → h1 x y = 0 := fun x y z => (q.2.2 x y (by omega) (by omega) (by omega) (by omega)).trans (ha0_z (by omega))
  refine mk146 (K0 := obs72 0) (n := 267) k72_l (fun x y z => hz x y (by omega)) ?_
  show Rn (ev 146 122 [AR 268] [] (obs72 0 ++ obs146 267, hput h1 268 15 (-1), 281, s + 46406, L, f)) _
  refine Rn_sim (K2 := [(22, 1, [])]) (K := obs72 0 ++ obs146 267) (n := 281) (P := Ch (hput h1 268 15 (-1)) (ldM w00)) ?_ kM_l kM_c (rfL_c (rfA_R (by decide)) rfL_nil) rfL_nil (by show (281 : Nat) ≠ 281 + 1; decide)
  rw [kM_e]
  exact n146 (r := 156) (d := 212) (funext fun y => (hput_n (by omega)).trans (hz 269 y (by decide)))
theorem w00_D : WFd (ldM w00) 1 ∧ (1 ≤ w00 0 ∧ 1 ≤ w00 1 ∧ 1 ≤ w00 2) := by
  obtain ⟨s, hm, hs⟩ := t0_ok
  obtain ⟨o1, o2, -⟩ := mTxt_ok (by decide) hm
  rw [hs] at o1 o2
  exact ⟨o1, o2⟩
/-- both machines as they stand at the start -/
theorem relS (q : Q72 156 ha0 h1) (p : Ch (hput h1 268 15 (-1)) (ldM w00) h2) : Rel 156 212 1 h2 h2 := by
  obtain ⟨⟨qR, qS⟩, ⟨q21, q3⟩, qf⟩ := q
  obtain ⟨p9, pf⟩ := p
  obtain ⟨o1, o2⟩ := w00_D
  obtain ⟨z1, z2, -⟩ := w00_W
  have e : ∀ x y, x < 268 → h2 x y = h1 x y := fun x y z => (pf x y (by unfold scr; omega) (by omega)).trans (hput_n (by omega))
  have e68 : ∀ y, y ≠ 7 → y ≠ 8 → y ≠ 11 → y ≠ 15 → h2 268 y = 0 := fun y y1 y2 y3 y4 => (pf 268 y (by unfold scr; omega) (by decide)).trans ((hput_n (by omega)).trans ((qf _ _ (by decide) (by decide) (by omega) (by omega)).trans (ha0_z (by omega))))
  have e15 : h2 268 15 = -1 := (pf 268 15 (by unfold scr; omega) (by decide)).trans hput_s
  have ez : ∀ x y, x < 268 → x ≠ 2 → x ≠ 3 → (x < 8 ∨ 21 ≤ x) → (x < 156 ∨ 212 ≤ x) → ¬ (x = 1 ∧ y = 12) → h2 x y = 0 := fun x y x1 x2 x3 x4 x5 x6 => (e x y x1).trans ((qf x y x2 x3 x4 x5).trans (ha0_z x6))
  have e12 : h2 1 12 = -1 := (e _ _ (by decide)).trans ((qf _ _ (by decide) (by decide) (by omega) (by omega)).trans ha0_s)
  have eo : ∀ y : Nat, ¬ (5 ≤ y ∧ y ≤ 8) → y ≠ 18 → y ≠ 59 → ldM w00 y = w00 y := fun y y1 y2 y3 => (if_neg y3).trans (g2sW_o ⟨y1, y2⟩)
  have hs : SameR w00 (ldM w00) := fun y hy => eo y (by omega) (by omega) (by omega)
  have ex : EX (ldM w00) := by
    refine ⟨fun k hk => absurd (show (k : Int) < 0 from hk) (by omega), fun t t1 t2 => ?_, fun t t1 t2 => ?_⟩
    · exact (eo _ (by omega) (by omega) (by omega)).trans (z2 _ (by omega) (by omega))
    · rw [hs 0 (by omega)] at t1
      have := o2.1
      exact (eo _ (by omega) (by omega) (by omega)).trans (z2 _ (by omega) (by omega))
  have hc : CRl h1 156 (ldM w00) := CRl.ag ⟨qR.1.1, qR.1.2.1, qR.2⟩ z1 hs
  unfold Rel
  rw [p9, e68 4 (by decide) (by decide) (by decide) (by decide), e68 5 (by decide) (by decide) (by decide) (by decide), e68 13 (by decide) (by decide) (by decide) (by decide), e68 14 (by decide) (by decide) (by decide) (by decide), e15, e68 30 (by decide) (by decide) (by decide) (by decide)]
  refine ⟨⟨⟨Or.inl ⟨rfl, rfl⟩, ez _ _ (by decide) (by decide) (by decide) (by omega) (by omega) (by omega)⟩, ⟨o1, ex, trivial⟩, by rw [hs 0 (by omega), hs 1 (by omega), hs 2 (by omega)]; exact o2, hc.fr o1.1.1 (fun x y y1 y2 => e x y (by omega)), qS.fr (fun x y y1 y2 => e x y (by omega)), fun z => absurd (ez 143 0 (by decide) (by decide) (by decide) (by omega) (by omega) (by omega)) z⟩, ⟨by rw [ez 34 1 (by decide) (by decide) (by decide) (by omega) (by omega) (by omega)]; decide, ez _ _ (by decide) (by decide) (by decide) (by omega) (by omega) (by omega), by decide, fun i hi => by omega⟩, ⟨by rw [ez 1 13 (by decide) (by decide) (by decide) (by omega) (by omega) (by omega)], fun z => absurd rfl z⟩, ⟨(e _ _ (by decide)).trans q21, by decide, fun y hy => by omega, fun y => by rw [e 3 y (by decide)]; exact q3 y⟩, ⟨ez _ _ (by decide) (by decide) (by decide) (by omega) (by omega) (by omega), e12⟩, ez _ _ (by decide) (by decide) (by decide) (by omega) (by omega) (by omega), by decide, fun y hy => by omega⟩
theorem lawS (g : ∀ h3, Rel 156 212 1 h3 h3 → Rn (ev 312 23 [AS 0, AR 1, AR 268, AR 282, AI 0, AU, AU, AU, AU] [] (KS 156 212, h3, 282, 79730, L, f)) Q) : Rn (ev 312 0 [AS 0, AU, AU, AU, AU, AU, AU, AU, AU] [] ([], hz0, 0, 0, L, f)) Q := by
  refine w_newC (K0 := []) (l := []) (n := 0) (p := 0) (l' := [(11, 14, [0, 0, 0, 0, 0, 0, 0, 0, 0, 0, 0, 0, 0, 0])]) (p1 := 1) (s1 := 14) f312_0 rfl rfl (fun _ _ _ => rfl) rfl rfl rfl ?_
  refine w_dup f312_3 rfl ?_
  refine w_bnd f312_4 (w_sV (Or.inr rfl) (by decide) rfl (by decide) (okd_of rfl) rfl ⟨Nat.le_of_ble_eq_true rfl, rfl, Nat.le_of_ble_eq_true rfl⟩) (en72 _) st72 (fun o ho => ?_)
  obtain ⟨h1, q1, rfl⟩ := ho
  refine w_bok (pv72 _ _) ?_
  show Rn (ev 312 7 [AS 0, AU, AU, AU, AU, AU, AU, AU, AU] [AR 1] (obs72 0, h1, 267, 33292, L, f)) Q
  refine w_astoren f312_7 (by decide) (Nat.le_of_ble_eq_true rfl) (sto_9_1 rfl) ?_
  have hz : ∀ x y, 268 ≤ x → h1 x y = 0 := fun x y z => (q1.2.2 x y (by omega) (by omega) (by omega) (by omega)).trans (ha0_z (by omega))
  rw [← List.append_nil (obs72 0)]
  refine w_newC (K0 := obs72 0) (l := []) (n := 267) (p := 0) (l' := [(12, 31, [0, 0, 0, 0, 0, 0, 0, 0, 0, 0, 0, 0, 0, 0, 0, 0, 0, 0, 0, 0, 0, 0, 0, 0, 0, 0, 0, 0, 0, 0, 0])]) (p1 := 1) (s1 := 33323) f312_8 k72_l rfl (fun x y z => hz x y (by omega)) rfl rfl rfl ?_
  refine w_dup f312_11 rfl ?_
  refine w_bnd f312_12 (w_sV (Or.inr rfl) (by decide) rfl (by decide) (okd_of ((kd_app k72_l (k := 0)).trans rfl)) rfl ⟨Nat.le_of_ble_eq_true rfl, rfl, Nat.le_of_ble_eq_true rfl⟩) (en146 _) (st146 q1) (fun o ho => ?_)
  obtain ⟨h2, q2, rfl⟩ := ho
  refine w_bok (pv146 _ _) ?_
  show Rn (ev 312 15 [AS 0, AR 1, AU, AU, AU, AU, AU, AU, AU] [AR 268] (obs72 0 ++ obs146 267, h2, 281, 79729, L, f)) Q
  refine w_astoren f312_15 (by decide) (Nat.le_of_ble_eq_true rfl) (sto_9_2 rfl) ?_
  refine w_iconst (v := 1) f312_16 (by decide) ?_
  refine w_narC (K0 := []) (l := obs72 0 ++ obs146 267) (n := 0) (p := 281) (l' := KS 156 212) (p1 := 282) (s1 := 79730) f312_17 (by decide) (by decide) rfl kM_l (fun x y z => (q2.2 x y (by unfold scr; omega) (by omega)).trans ((hput_n (by omega)).trans (hz x y (by omega)))) kM_e rfl rfl ?_
  show Rn (ev 312 19 [AS 0, AR 1, AR 268, AU, AU, AU, AU, AU, AU] [AR 282] (KS 156 212, h2, 282, 79730, L, f)) Q
  refine w_astoren f312_19 (by decide) (Nat.le_of_ble_eq_true rfl) (sto_9_3 rfl) ?_
  refine w_iconst (v := 0) f312_20 (by decide) ?_
  refine w_istore f312_21 (Nat.le_of_ble_eq_true rfl) (sto_9_4 rfl) ?_
  exact g h2 (relS q1 q2)
/-- THE LAW'S WHOLE RUN -/
theorem law_all (hm : L ≤ 3072) : Rn (ev 312 0 [AS 0, AU, AU, AU, AU, AU, AU, AU, AU] [] ([], hz0, 0, 0, L, f)) (LawE 282 79730 512 L f) :=
  lawS (fun _ q => lawL hm 512 q (by decide) (by decide) (by decide) (by decide) (by omega))
end A

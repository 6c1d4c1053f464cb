/-! the class's reading: operators -/
section A
variable {K : List AKd} {h : Nat → Nat → Int} {R : R4} {σ : Sg} {r d : Nat} {w : Nat → Int} {b : Nat → Int} {n : Int}
theorem s27l {t : Nat} {T : Tk} {l : List Int} (hP : PT h b n T) (ht : t < am_txt.length) (hl : text (t + 1) = l) : Rn (ev 27 0 [AR 2, AS (t + 1)] [] (KS r d, h, R)) (fun o => ((h 2 6 = 0 ∧ isW b T l = true) ∧ ∃ h1, (TcF h h1 ∧ PT h1 b n (tok b n T.2.1)) ∧ o = (.inl (AI 1), (KS r d, h1, R))) ∨ (¬ (h 2 6 = 0 ∧ isW b T l = true) ∧ o = (.inl (AI 0), (KS r d, h, R)))) := by
  subst hl
  exact s27 ht hP
/-- a word of a list was read, or the class has failed -/
def WoQ (r d : Nat) (R : R4) (h : Nat → Nat → Int) (b : Nat → Int) (n : Int) (T : Tk) (v : Int) : Out → Prop := fun o => ((h 2 6 = 0 ∧ v ≠ -1) ∧ ∃ h1, (TcF h h1 ∧ PT h1 b n (tok b n T.2.1)) ∧ o = (.inl (AI v), (KS r d, h1, R))) ∨ (¬ (h 2 6 = 0 ∧ v ≠ -1) ∧ o = (.inl (AI (-1)), (KS r d, fle h 1, R)))
theorem s36 {T : Tk} (hP : PT h b n T) : Rn (ev 36 0 [AR 2] [] (KS r d, h, R)) (WoQ r d R h b n T (acW b T)) := by
  have k0 := @kd_2 r d
  refine w_aloadn f36_0 rfl (by omega) ?_
  refine w_ldc f36_1 ?_
  refine w_qV f36_3 (Or.inl rfl) rfl (by omega) (okd_of (by assumption)) rfl ⟨Nat.le_of_ble_eq_true rfl, rfl, Nat.le_of_ble_eq_true rfl⟩ (en27 _ _) (s27l (t := 6) (l := tx_add) hP (by decide) rfl) (fun o9 ho9 => ?_)
  obtain ⟨x, h1, hx, rfl⟩ := two ho9
  refine w_bok (pv27 _ _) ?_
  refine w_if_eq (t := 11) f36_6 (by decide) (fun c1 => ?_) (fun c1 => ?_)
  · have m1 := hx.resolve_left (fun z => by omega)
    obtain ⟨-, n1, rfl⟩ := m1
    refine w_aloadn f36_11 rfl (by omega) ?_
    refine w_ldc f36_12 ?_
    refine w_qV f36_14 (Or.inl rfl) rfl (by omega) (okd_of (by assumption)) rfl ⟨Nat.le_of_ble_eq_true rfl, rfl, Nat.le_of_ble_eq_true rfl⟩ (en27 _ _) (s27l (t := 7) (l := tx_sub) hP (by decide) rfl) (fun o9 ho9 => ?_)
    obtain ⟨y, h2, hy, rfl⟩ := two ho9
    refine w_bok (pv27 _ _) ?_
    refine w_if_eq (t := 22) f36_17 (by decide) (fun c2 => ?_) (fun c2 => ?_)
    · have m2 := hy.resolve_left (fun z => by omega)
      obtain ⟨-, n2, rfl⟩ := m2
      refine w_aloadn f36_22 rfl (by omega) ?_
      refine w_ldc f36_23 ?_
      refine w_qV f36_25 (Or.inl rfl) rfl (by omega) (okd_of (by assumption)) rfl ⟨Nat.le_of_ble_eq_true rfl, rfl, Nat.le_of_ble_eq_true rfl⟩ (en27 _ _) (s27l (t := 8) (l := tx_set) hP (by decide) rfl) (fun o9 ho9 => ?_)
      obtain ⟨z, h3, hz, rfl⟩ := two ho9
      refine w_bok (pv27 _ _) ?_
      refine w_if_eq (t := 33) f36_28 (by decide) (fun c3 => ?_) (fun c3 => ?_)
      · have m3 := hz.resolve_left (fun z => by omega)
        obtain ⟨-, n3, rfl⟩ := m3
        refine w_aloadn f36_33 rfl (by omega) ?_
        refine w_iconst (v := 1) f36_34 (by decide) ?_
        refine w_cV f36_35 (Or.inl rfl) rfl (by omega) (okd_of (by assumption)) rfl ⟨Nat.le_of_ble_eq_true rfl, rfl, Nat.le_of_ble_eq_true rfl⟩ (en24 _ _) (s24) (pv24 _ _) ?_
        refine w_iconst (v := -1) f36_38 (by decide) ?_
        refine w_iret f36_39 rfl ?_
        exact Or.inr ⟨fun q => q.2 (by unfold acW; rw [if_neg (fun z => n1 ⟨q.1, z⟩), if_neg (fun z => n2 ⟨q.1, z⟩), if_neg (fun z => n3 ⟨q.1, z⟩)]), rfl⟩
      · have m3 := hz.resolve_right (fun z => by omega)
        refine w_iconst (v := 2) f36_31 (by decide) ?_
        refine w_iret f36_32 rfl ?_
        have p1 : ¬ isW b T tx_add = true := fun z => n1 ⟨m3.2.1.1, z⟩
        have p2 : ¬ isW b T tx_sub = true := fun z => n2 ⟨m3.2.1.1, z⟩
        rw [show acW b T = 2 from by unfold acW; rw [if_neg p1, if_neg p2, if_pos m3.2.1.2]]
        exact Or.inl ⟨⟨m3.2.1.1, by decide⟩, _, m3.2.2, rfl⟩
    · have m2 := hy.resolve_right (fun z => by omega)
      refine w_iconst (v := 1) f36_20 (by decide) ?_
      refine w_iret f36_21 rfl ?_
      have p1 : ¬ isW b T tx_add = true := fun z => n1 ⟨m2.2.1.1, z⟩
      rw [show acW b T = 1 from by unfold acW; rw [if_neg p1, if_pos m2.2.1.2]]
      exact Or.inl ⟨⟨m2.2.1.1, by decide⟩, _, m2.2.2, rfl⟩
  · have m1 := hx.resolve_right (fun z => by omega)
    refine w_iconst (v := 0) f36_9 (by decide) ?_
    refine w_iret f36_10 rfl ?_
    rw [show acW b T = 0 from if_pos m1.2.1.2]
    exact Or.inl ⟨⟨m1.2.1.1, by decide⟩, _, m1.2.2, rfl⟩
theorem s35 {T : Tk} (hP : PT h b n T) : Rn (ev 35 0 [AR 2] [] (KS r d, h, R)) (WoQ r d R h b n T (opW b T)) := by
  have k0 := @kd_2 r d
  refine w_aloadn f35_0 rfl (by omega) ?_
  refine w_ldc f35_1 ?_
  refine w_qV f35_3 (Or.inl rfl) rfl (by omega) (okd_of (by assumption)) rfl ⟨Nat.le_of_ble_eq_true rfl, rfl, Nat.le_of_ble_eq_true rfl⟩ (en27 _ _) (s27l (t := 0) (l := tx_below) hP (by decide) rfl) (fun o9 ho9 => ?_)
  obtain ⟨x0, h1, hx0, rfl⟩ := two ho9
  refine w_bok (pv27 _ _) ?_
  refine w_if_eq (t := 11) f35_6 (by decide) (fun c1 => ?_) (fun c1 => ?_)
  · have m0 := hx0.resolve_left (fun z => by omega)
    obtain ⟨-, n0, rfl⟩ := m0
    refine w_aloadn f35_11 rfl (by omega) ?_
    refine w_ldc f35_12 ?_
    refine w_qV f35_14 (Or.inl rfl) rfl (by omega) (okd_of (by assumption)) rfl ⟨Nat.le_of_ble_eq_true rfl, rfl, Nat.le_of_ble_eq_true rfl⟩ (en27 _ _) (s27l (t := 1) (l := tx_atmost) hP (by decide) rfl) (fun o9 ho9 => ?_)
    obtain ⟨x1, h2, hx1, rfl⟩ := two ho9
    refine w_bok (pv27 _ _) ?_
    refine w_if_eq (t := 22) f35_17 (by decide) (fun c2 => ?_) (fun c2 => ?_)
    · have m1 := hx1.resolve_left (fun z => by omega)
      obtain ⟨-, n1, rfl⟩ := m1
      refine w_aloadn f35_22 rfl (by omega) ?_
      refine w_ldc f35_23 ?_
      refine w_qV f35_25 (Or.inl rfl) rfl (by omega) (okd_of (by assumption)) rfl ⟨Nat.le_of_ble_eq_true rfl, rfl, Nat.le_of_ble_eq_true rfl⟩ (en27 _ _) (s27l (t := 2) (l := tx_equals) hP (by decide) rfl) (fun o9 ho9 => ?_)
      obtain ⟨x2, h3, hx2, rfl⟩ := two ho9
      refine w_bok (pv27 _ _) ?_
      refine w_if_eq (t := 33) f35_28 (by decide) (fun c3 => ?_) (fun c3 => ?_)
      · have m2 := hx2.resolve_left (fun z => by omega)
        obtain ⟨-, n2, rfl⟩ := m2
        refine w_aloadn f35_33 rfl (by omega) ?_
        refine w_ldc f35_34 ?_
        refine w_qV f35_36 (Or.inl rfl) rfl (by omega) (okd_of (by assumption)) rfl ⟨Nat.le_of_ble_eq_true rfl, rfl, Nat.le_of_ble_eq_true rfl⟩ (en27 _ _) (s27l (t := 3) (l := tx_differs) hP (by decide) rfl) (fun o9 ho9 => ?_)
        obtain ⟨x3, h4, hx3, rfl⟩ := two ho9
        refine w_bok (pv27 _ _) ?_
        refine w_if_eq (t := 44) f35_39 (by decide) (fun c4 => ?_) (fun c4 => ?_)
        · have m3 := hx3.resolve_left (fun z => by omega)
          obtain ⟨-, n3, rfl⟩ := m3
          refine w_aloadn f35_44 rfl (by omega) ?_
          refine w_ldc f35_45 ?_
          refine w_qV f35_47 (Or.inl rfl) rfl (by omega) (okd_of (by assumption)) rfl ⟨Nat.le_of_ble_eq_true rfl, rfl, Nat.le_of_ble_eq_true rfl⟩ (en27 _ _) (s27l (t := 4) (l := tx_atleast) hP (by decide) rfl) (fun o9 ho9 => ?_)
          obtain ⟨x4, h5, hx4, rfl⟩ := two ho9
          refine w_bok (pv27 _ _) ?_
          refine w_if_eq (t := 55) f35_50 (by decide) (fun c5 => ?_) (fun c5 => ?_)
          · have m4 := hx4.resolve_left (fun z => by omega)
            obtain ⟨-, n4, rfl⟩ := m4
            refine w_aloadn f35_55 rfl (by omega) ?_
            refine w_ldc f35_56 ?_
            refine w_qV f35_58 (Or.inl rfl) rfl (by omega) (okd_of (by assumption)) rfl ⟨Nat.le_of_ble_eq_true rfl, rfl, Nat.le_of_ble_eq_true rfl⟩ (en27 _ _) (s27l (t := 5) (l := tx_above) hP (by decide) rfl) (fun o9 ho9 => ?_)
            obtain ⟨x5, h6, hx5, rfl⟩ := two ho9
            refine w_bok (pv27 _ _) ?_
            refine w_if_eq (t := 66) f35_61 (by decide) (fun c6 => ?_) (fun c6 => ?_)
            · have m5 := hx5.resolve_left (fun z => by omega)
              obtain ⟨-, n5, rfl⟩ := m5
              refine w_aloadn f35_66 rfl (by omega) ?_
              refine w_iconst (v := 1) f35_67 (by decide) ?_
              refine w_cV f35_68 (Or.inl rfl) rfl (by omega) (okd_of (by assumption)) rfl ⟨Nat.le_of_ble_eq_true rfl, rfl, Nat.le_of_ble_eq_true rfl⟩ (en24 _ _) (s24) (pv24 _ _) ?_
              refine w_iconst (v := -1) f35_71 (by decide) ?_
              refine w_iret f35_72 rfl ?_
              exact Or.inr ⟨fun q => q.2 (by unfold opW; rw [if_neg (fun z => n0 ⟨q.1, z⟩), if_neg (fun z => n1 ⟨q.1, z⟩), if_neg (fun z => n2 ⟨q.1, z⟩), if_neg (fun z => n3 ⟨q.1, z⟩), if_neg (fun z => n4 ⟨q.1, z⟩), if_neg (fun z => n5 ⟨q.1, z⟩)]), rfl⟩
            · have m5 := hx5.resolve_right (fun z => by omega)
              refine w_iconst (v := 5) f35_64 (by decide) ?_
              refine w_iret f35_65 rfl ?_
              have p0 : ¬ isW b T tx_below = true := fun z => n0 ⟨m5.2.1.1, z⟩
              have p1 : ¬ isW b T tx_atmost = true := fun z => n1 ⟨m5.2.1.1, z⟩
              have p2 : ¬ isW b T tx_equals = true := fun z => n2 ⟨m5.2.1.1, z⟩
              have p3 : ¬ isW b T tx_differs = true := fun z => n3 ⟨m5.2.1.1, z⟩
              have p4 : ¬ isW b T tx_atleast = true := fun z => n4 ⟨m5.2.1.1, z⟩
              rw [show opW b T = 5 from by unfold opW; rw [if_neg p0, if_neg p1, if_neg p2, if_neg p3, if_neg p4, if_pos m5.2.1.2]]
              exact Or.inl ⟨⟨m5.2.1.1, by decide⟩, _, m5.2.2, rfl⟩
          · have m4 := hx4.resolve_right (fun z => by omega)
            refine w_iconst (v := 4) f35_53 (by decide) ?_
            refine w_iret f35_54 rfl ?_
            have p0 : ¬ isW b T tx_below = true := fun z => n0 ⟨m4.2.1.1, z⟩
            have p1 : ¬ isW b T tx_atmost = true := fun z => n1 ⟨m4.2.1.1, z⟩
            have p2 : ¬ isW b T tx_equals = true := fun z => n2 ⟨m4.2.1.1, z⟩
            have p3 : ¬ isW b T tx_differs = true := fun z => n3 ⟨m4.2.1.1, z⟩
            rw [show opW b T = 4 from by unfold opW; rw [if_neg p0, if_neg p1, if_neg p2, if_neg p3, if_pos m4.2.1.2]]
            exact Or.inl ⟨⟨m4.2.1.1, by decide⟩, _, m4.2.2, rfl⟩
        · have m3 := hx3.resolve_right (fun z => by omega)
          refine w_iconst (v := 3) f35_42 (by decide) ?_
          refine w_iret f35_43 rfl ?_
          have p0 : ¬ isW b T tx_below = true := fun z => n0 ⟨m3.2.1.1, z⟩
          have p1 : ¬ isW b T tx_atmost = true := fun z => n1 ⟨m3.2.1.1, z⟩
          have p2 : ¬ isW b T tx_equals = true := fun z => n2 ⟨m3.2.1.1, z⟩
          rw [show opW b T = 3 from by unfold opW; rw [if_neg p0, if_neg p1, if_neg p2, if_pos m3.2.1.2]]
          exact Or.inl ⟨⟨m3.2.1.1, by decide⟩, _, m3.2.2, rfl⟩
      · have m2 := hx2.resolve_right (fun z => by omega)
        refine w_iconst (v := 2) f35_31 (by decide) ?_
        refine w_iret f35_32 rfl ?_
        have p0 : ¬ isW b T tx_below = true := fun z => n0 ⟨m2.2.1.1, z⟩
        have p1 : ¬ isW b T tx_atmost = true := fun z => n1 ⟨m2.2.1.1, z⟩
        rw [show opW b T = 2 from by unfold opW; rw [if_neg p0, if_neg p1, if_pos m2.2.1.2]]
        exact Or.inl ⟨⟨m2.2.1.1, by decide⟩, _, m2.2.2, rfl⟩
    · have m1 := hx1.resolve_right (fun z => by omega)
      refine w_iconst (v := 1) f35_20 (by decide) ?_
      refine w_iret f35_21 rfl ?_
      have p0 : ¬ isW b T tx_below = true := fun z => n0 ⟨m1.2.1.1, z⟩
      rw [show opW b T = 1 from by unfold opW; rw [if_neg p0, if_pos m1.2.1.2]]
      exact Or.inl ⟨⟨m1.2.1.1, by decide⟩, _, m1.2.2, rfl⟩
  · have m0 := hx0.resolve_right (fun z => by omega)
    refine w_iconst (v := 0) f35_9 (by decide) ?_
    refine w_iret f35_10 rfl ?_
    rw [show opW b T = 0 from by unfold opW; rw [if_pos m0.2.1.2]]
    exact Or.inl ⟨⟨m0.2.1.1, by decide⟩, _, m0.2.2, rfl⟩
end A

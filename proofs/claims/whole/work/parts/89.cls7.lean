/-! the class's reading: expect, operators -/
section A
variable {K : List AKd} {h : Nat → Nat → Int} {R : R4} {σ : Sg} {r d : Nat} {w : Nat → Int} {b : Nat → Int} {n : Int}
theorem two {A : Prop} {P : (Nat → Nat → Int) → Prop} {o : Out} (q : (A ∧ ∃ h1, P h1 ∧ o = (.inl (AI 1), (KS r d, h1, R))) ∨ (¬ A ∧ o = (.inl (AI 0), (KS r d, h, R)))) : ∃ x h1, ((x = 1 ∧ A ∧ P h1) ∨ (x = 0 ∧ ¬ A ∧ h1 = h)) ∧ o = (.inl (AI x), (KS r d, h1, R)) := by
  rcases q with ⟨z, h1, q1, rfl⟩ | ⟨z, rfl⟩
  · exact ⟨1, h1, Or.inl ⟨rfl, z, q1⟩, rfl⟩
  · exact ⟨0, h, Or.inr ⟨rfl, z, rfl⟩, rfl⟩
theorem s28 {t : Nat} {T : Tk} (ht : t < am_txt.length) (hP : PT h b n T) : Rn (ev 28 0 [AR 2, AS (t + 1)] [] (KS r d, h, R)) (fun o => ((h 2 6 = 0 ∧ isW b T (text (t + 1)) = true) ∧ ∃ h1, (TcF h h1 ∧ PT h1 b n (tok b n T.2.1)) ∧ o = (.inl AU, (KS r d, h1, R))) ∨ (¬ (h 2 6 = 0 ∧ isW b T (text (t + 1)) = true) ∧ o = (.inl AU, (KS r d, fle h 1, R)))) := by
  have k0 := @kd_2 r d
  refine w_aloadn f28_0 rfl (by omega) ?_
  refine w_aloadns f28_1 rfl ?_
  refine w_qV f28_2 (Or.inl rfl) rfl (by omega) (okd_of (by assumption)) rfl ⟨Nat.le_of_ble_eq_true rfl, rfl, Nat.le_of_ble_eq_true rfl⟩ (en27 _ _) (s27 ht hP) (fun o9 ho9 => ?_)
  obtain ⟨x, h1, hx, rfl⟩ := two ho9
  refine w_bok (pv27 _ _) ?_
  refine w_if_ne (t := 13) f28_5 (by decide) (fun c1 => ?_) (fun c1 => ?_)
  · refine w_ret f28_13 rfl ?_
    rcases hx with ⟨z0, z1, z2⟩ | ⟨z0, z1, z2⟩
    · first | (exfalso; omega) | exact Or.inl ⟨z1, h1, z2, rfl⟩
    · first | (exfalso; omega) | (subst z2; exact Or.inr ⟨z1, rfl⟩)
  · refine w_aloadn f28_8 rfl (by omega) ?_
    refine w_iconst (v := 1) f28_9 (by decide) ?_
    refine w_cV f28_10 (Or.inl rfl) rfl (by omega) (okd_of (by assumption)) rfl ⟨Nat.le_of_ble_eq_true rfl, rfl, Nat.le_of_ble_eq_true rfl⟩ (en24 _ _) (s24) (pv24 _ _) ?_
    refine w_ret f28_13 rfl ?_
    rcases hx with ⟨z0, z1, z2⟩ | ⟨z0, z1, z2⟩
    · first | (exfalso; omega) | exact Or.inl ⟨z1, h1, z2, rfl⟩
    · first | (exfalso; omega) | (subst z2; exact Or.inr ⟨z1, rfl⟩)
theorem s29 {T : Tk} {x : Int} (hP : PT h b n T) : Rn (ev 29 0 [AR 2, AI x] [] (KS r d, h, R)) (fun o => (x ≠ 0 ∧ ∃ h1, (TcF h h1 ∧ PT h1 b n (tok b n T.2.1)) ∧ o = (.inl AU, (KS r d, h1, R))) ∨ (x = 0 ∧ o = (.inl AU, (KS r d, fle h 5, R)))) := by
  have k0 := @kd_2 r d
  refine w_iloadn f29_0 rfl ?_
  refine w_if_eq (t := 11) f29_1 (by decide) (fun c1 => ?_) (fun c1 => ?_)
  · refine w_aloadn f29_11 rfl (by omega) ?_
    refine w_iconst (v := 5) f29_12 (by decide) ?_
    refine w_cV f29_13 (Or.inl rfl) rfl (by omega) (okd_of (by assumption)) rfl ⟨Nat.le_of_ble_eq_true rfl, rfl, Nat.le_of_ble_eq_true rfl⟩ (en24 _ _) (s24) (pv24 _ _) ?_
    refine w_ret f29_16 rfl ?_
    first | exact Or.inl ⟨by assumption, h1, q1, rfl⟩ | exact Or.inr ⟨by assumption, rfl⟩
  · refine w_aloadn f29_4 rfl (by omega) ?_
    refine w_qV f29_5 (Or.inl rfl) rfl (by omega) (okd_of (by assumption)) rfl ⟨Nat.le_of_ble_eq_true rfl, rfl, Nat.le_of_ble_eq_true rfl⟩ (en25 _) (s25p hP) (fun o9 ho9 => ?_)
    obtain ⟨h1, q1, rfl⟩ := ho9
    refine w_bok (pv25 _ _) ?_
    refine w_goto (t := 16) f29_8 (by decide) ?_
    refine w_ret f29_16 rfl ?_
    first | exact Or.inl ⟨by assumption, h1, q1, rfl⟩ | exact Or.inr ⟨by assumption, rfl⟩
end A

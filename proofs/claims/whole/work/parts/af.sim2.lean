/-! what runs beside more objects runs without them: the runs -/
section A
variable {K2 : List AKd} {n : Nat}
theorem rfL_ent {y : Nat} {as : List AV} (h : rfL n as) : rfL n (entryL y as) := fun v hv => by
  rcases List.mem_append.mp hv with h1 | h1
  · exact h v h1
  · rw [(List.mem_replicate.mp h1).2]
    exact rfA_U
theorem rfL_push {y : Nat} {v : AV} {st : List AV} (h : rfL n st) (g : rfA n v) : rfL n (pushV y v st) := by
  unfold pushV
  split
  · exact h
  · exact rfL_c g h
theorem fresh_up {σ : Sg} (hS : StN n σ) (hc : σ.2.2.1 ≠ n + K2.length) : fresh (upS K2 σ) = false := by
  unfold fresh upS
  have := hS.2
  have e : (σ.1 ++ K2).length = n + K2.length := by rw [List.length_append, this]
  rw [e]
  simp only [beq_eq_false_iff_ne, ne_eq]
  exact fun z => hc z.symm
def okO (n : Nat) (o : Out) : Prop := StN n o.2 ∧ ∀ v, o.1 = .inl v → rfA n v
def upO (K2 : List AKd) (o : Out) : Out := (o.1, upS K2 o.2)
theorem run_sim : ∀ (k m pc : Nat) (ls st : List AV) (σ : Sg) (o : Out), run k m pc ls st (upS K2 σ) = some o → StN n σ → rfL n ls → rfL n st → σ.2.2.1 ≠ n + K2.length → o.2.2.2.1 ≤ σ.2.2.1 → ∃ o1, run k m pc ls st σ = some o1 ∧ o = upO K2 o1 ∧ okO n o1 := by
  intro k
  induction k with
  | zero => intro m pc ls st σ o h; cases h
  | succ k ih =>
    intro m pc ls st σ o h hS hl hs hc ho
    rw [run] at h ⊢
    have hsim : SimO K2 n (step m pc ls st (upS K2 σ)) (step m pc ls st σ) := by
      unfold step
      split
      · exact stepI_sim hS (fresh_up hS hc) hl hs
      · exact SimO_none
    cases hq : step m pc ls st (upS K2 σ) with
    | none => rw [hq] at h; cases h
    | some q =>
      have hm := step_mono q hq
      rw [hq] at h
      obtain ⟨q1, e1, rfl, hok⟩ := hsim q hq
      rw [e1]
      rcases q1 with ⟨pc1, ls1, st1, σ1⟩ | ⟨y, as, pc1, ls1, st1, σ1⟩ | ⟨v, σ1⟩ | ⟨E, σ1⟩
      · dsimp only [upT] at h ⊢
        have hm2 : σ.2.2.1 ≤ σ1.2.2.1 := hm.2.1
        have h2 : σ1.2.2.1 ≤ o.2.2.2.1 := (run_monoS _ _ _ _ _ _ _ h).2.1
        exact ih m pc1 ls1 st1 σ1 o h hok.2.2 hok.1 hok.2.1 (by omega) (by omega)
      · dsimp only [upT] at h ⊢
        have hm2 : σ.2.2.1 ≤ σ1.2.2.1 := hm.2.1
        cases hcq : run k y 0 (entryL y as) [] (upS K2 σ1) with
        | none => rw [hcq] at h; cases h
        | some u =>
          rw [hcq] at h
          have h2 : σ1.2.2.1 ≤ u.2.2.2.1 := (run_monoS _ _ _ _ _ _ _ hcq).2.1
          have h3 : u.2.2.2.1 ≤ o.2.2.2.1 := by
            obtain ⟨v | E, σ2⟩ := u
            · exact (run_monoS _ _ _ _ _ _ _ h).2.1
            · dsimp only at h
              unfold hnd at h
              split at h
              · cases h
              · split at h
                · cases h; exact Nat.le_refl _
                · split at h
                  · cases h; exact Nat.le_refl _
                  · cases h
          obtain ⟨u1, f1, rfl, g1⟩ := ih y 0 (entryL y as) [] σ1 u hcq hok.2.2.2 (rfL_ent hok.1) rfL_nil (by omega) (by omega)
          rw [f1]
          obtain ⟨v | E, σ2⟩ := u1
          · dsimp only [upO] at h h2 h3 ⊢
            have h2 : σ1.2.2.1 ≤ σ2.2.2.1 := h2
            have h3 : σ2.2.2.1 ≤ o.2.2.2.1 := h3
            exact ih m pc1 ls1 (pushV y v st1) σ2 o h g1.1 hok.2.1 (rfL_push hok.2.2.1 (g1.2 v rfl)) (by omega) (by omega)
          · dsimp only [upO] at h ⊢
            unfold hnd at h ⊢
            split at h
            · cases h
            · next z1 =>
              rw [if_neg z1]
              split at h
              · next z2 =>
                rw [if_pos z2]
                cases h
                exact ⟨_, rfl, rfl, g1.1, fun v e => nomatch e⟩
              · next z2 =>
                rw [if_neg z2]
                split at h
                · next q9 z3 =>
                  cases h
                  exact ⟨_, rfl, rfl, g1.1, fun v e => by cases e; exact rfA_I⟩
                · cases h
      · cases h
        exact ⟨_, rfl, rfl, hok.2, fun v9 e => by cases e; exact hok.1⟩
      · cases h
        exact ⟨_, rfl, rfl, hok, fun v9 e => nomatch e⟩
/-- so too what it comes to -/
theorem ev_sim {m pc : Nat} {ls st : List AV} {K : List AKd} {h h1 : Nat → Nat → Int} {R : R4} {v : AV} (e : ev m pc ls st (K ++ K2, h, R) = some (.inl v, (K ++ K2, h1, R))) (hK : K.length = n) (hcl : clK K n) (hl : rfL n ls) (hs : rfL n st) (hc : R.1 ≠ n + K2.length) : ev m pc ls st (K, h, R) = some (.inl v, (K, h1, R)) := by
  obtain ⟨k, hk⟩ := ev_iff.mp e
  obtain ⟨o1, f1, f2, f3⟩ := run_sim k m pc ls st (K, h, R) _ hk ⟨hcl, hK⟩ hl hs hc (Nat.le_refl _)
  obtain ⟨v1, K1, h2, R2⟩ := o1
  have e1 : (Sum.inl v : Sum AV Nat) = v1 := congrArg Prod.fst f2
  have e2 : K ++ K2 = K1 ++ K2 := congrArg (fun o : Out => o.2.1) f2
  have e3 : h1 = h2 := congrArg (fun o : Out => o.2.2.1) f2
  have e4 : R = R2 := congrArg (fun o : Out => o.2.2.2) f2
  have e5 := List.append_cancel_right e2
  subst e1 e3 e4 e5
  exact ev_iff.mpr ⟨k, f1⟩
theorem Rn_sim {m pc : Nat} {ls st : List AV} {K : List AKd} {h : Nat → Nat → Int} {R : R4} {v : AV} {P : (Nat → Nat → Int) → Prop} (e : Rn (ev m pc ls st (K ++ K2, h, R)) (fun o => ∃ h1, P h1 ∧ o = (.inl v, (K ++ K2, h1, R)))) (hK : K.length = n) (hcl : clK K n) (hl : rfL n ls) (hs : rfL n st) (hc : R.1 ≠ n + K2.length) : Rn (ev m pc ls st (K, h, R)) (fun o => ∃ h1, P h1 ∧ o = (.inl v, (K, h1, R))) := by
  obtain ⟨o, e1, h1, p, rfl⟩ := e
  exact Rn.to (ev_sim e1 hK hcl hl hs hc) ⟨h1, p, rfl⟩
end A

/-! what a step never does: the script stays, the counts only grow -/
def Mono (σ σ1 : Sg) : Prop := σ1.2.2.2.2 = σ.2.2.2.2 ∧ σ.2.2.1 ≤ σ1.2.2.1 ∧ σ.2.2.2.1 ≤ σ1.2.2.2.1
theorem Mono.refl (σ : Sg) : Mono σ σ := ⟨rfl, Nat.le_refl _, Nat.le_refl _⟩
theorem Mono.trans {a b c : Sg} (h1 : Mono a b) (h2 : Mono b c) : Mono a c := ⟨h2.1.trans h1.1, Nat.le_trans h1.2.1 h2.2.1, Nat.le_trans h1.2.2 h2.2.2⟩
theorem Mono_mk {σ : Sg} {q : AKd} {n : Nat} : Mono σ (mk σ q n) := ⟨rfl, Nat.le_succ _, Nat.le_add_right _ _⟩
theorem Mono_mks {σ : Sg} {n : Nat} : ∀ j, Mono σ (mks σ n j)
  | 0 => Mono.refl _
  | j + 1 => (Mono_mks j).trans Mono_mk
theorem Mono_put {σ : Sg} {k j : Nat} {v : Int} : Mono σ (put σ k j v) := ⟨rfl, Nat.le_refl _, Nat.le_refl _⟩
theorem Mono_putr {σ : Sg} {k j r : Nat} : Mono σ (putr σ k j r) := by
  cases k with
  | zero => exact Mono.refl _
  | succ k => exact ⟨rfl, Nat.le_refl _, Nat.le_refl _⟩
theorem Mono_copyw {σ : Sg} {a sp b dp n : Nat} : Mono σ (copyw σ a sp b dp n) := ⟨rfl, Nat.le_refl _, Nat.le_refl _⟩
theorem Mono_bump {σ : Sg} : Mono σ (bump σ) := ⟨rfl, Nat.le_succ _, Nat.le_add_right _ _⟩
def stS (r : ST) : Sg := match r with
  | .inl (_, _, _, σ) => σ
  | .inr (.inl (_, _, _, _, _, σ)) => σ
  | .inr (.inr (.inl (_, σ))) => σ
  | .inr (.inr (.inr (_, σ))) => σ
def MonoO (σ : Sg) (o : Option ST) : Prop := ∀ r, o = some r → Mono σ (stS r)
theorem MonoO_none {σ : Sg} : MonoO σ none := fun r h => nomatch h
theorem MonoO_nx {σ σ1 : Sg} {pc : Nat} {ls st : List AV} (h : Mono σ σ1) : MonoO σ (nx pc ls st σ1) := fun r e => by cases e; exact h
theorem MonoO_jmp {σ : Sg} {pc : Nat} {off : Int} {ls st : List AV} : MonoO σ (jmp pc off ls st σ) := by
  unfold jmp
  split
  · exact MonoO_nx (Mono.refl _)
  · exact MonoO_none
theorem MonoO_ite {σ : Sg} {c : Prop} [Decidable c] {a b : Option ST} (h1 : c → MonoO σ a) (h2 : ¬ c → MonoO σ b) : MonoO σ (if c then a else b) := by
  split
  · exact h1 (by assumption)
  · exact h2 (by assumption)
theorem MonoO_cal {σ : Sg} {y : Nat} {as : List AV} {pc : Nat} {ls st : List AV} : MonoO σ (cal y as pc ls st σ) := by
  unfold cal
  exact MonoO_ite (fun _ r e => by cases e; exact Mono.refl _) (fun _ => MonoO_none)
theorem MonoO_retv {σ : Sg} {v : AV} : MonoO σ (retv v σ) := fun r e => by cases e; exact Mono.refl _
theorem MonoO_thr {σ σ1 : Sg} {E : Nat} (h : Mono σ σ1) : MonoO σ (thr E σ1) := fun r e => by cases e; exact h
theorem stC_mono {pc : Nat} {ls st : List AV} {σ : Sg} {a b c : Nat} : MonoO σ (stC pc ls st σ a b c) := by
  unfold stC
  repeat' (first | exact MonoO_none | exact MonoO_cal | exact MonoO_nx (Mono.refl _) | exact MonoO_nx Mono_copyw | refine MonoO_ite (fun _ => ?_) (fun _ => ?_) | split)
set_option maxHeartbeats 4000000 in
theorem stepI_mono {m pc : Nat} {ls st : List AV} {σ : Sg} {ins : Instr} {a b c : Nat} : MonoO σ (stepI m pc ls st σ ins a b c) := by
  unfold stepI ldi lda ldd sti sta std
  split
  all_goals (repeat' (first | exact MonoO_none | exact stC_mono | exact MonoO_nx (Mono.refl _) | exact MonoO_jmp | exact MonoO_retv | exact MonoO_nx Mono_put | exact MonoO_nx Mono_putr | exact MonoO_nx Mono_mk | exact MonoO_nx (Mono.trans Mono_mk (Mono_mks _)) | exact MonoO_thr Mono_bump | refine MonoO_ite (fun _ => ?_) (fun _ => ?_) | split))
theorem step_mono {m pc : Nat} {ls st : List AV} {σ : Sg} : MonoO σ (step m pc ls st σ) := by
  unfold step
  split
  · exact stepI_mono
  · exact MonoO_none
theorem run_monoS : ∀ (n m pc : Nat) (ls st : List AV) (σ : Sg) (o : Out), run n m pc ls st σ = some o → Mono σ o.2 := by
  intro n
  induction n with
  | zero => intro m pc ls st σ o h; cases h
  | succ n ih =>
    intro m pc ls st σ o h
    rw [run] at h
    cases hs : step m pc ls st σ with
    | none => rw [hs] at h; cases h
    | some q =>
      have hm := step_mono (m := m) (pc := pc) (ls := ls) (st := st) (σ := σ) q hs
      rw [hs] at h
      rcases q with ⟨pc1, ls1, st1, σ1⟩ | ⟨y, as, pc1, ls1, st1, σ1⟩ | ⟨v, σ1⟩ | ⟨E, σ1⟩
      · exact hm.trans (ih _ _ _ _ _ _ h)
      · dsimp only at h
        cases hc : run n y 0 (entryL y as) [] σ1 with
        | none => rw [hc] at h; cases h
        | some u =>
          rw [hc] at h
          have h2 := ih _ _ _ _ _ _ hc
          obtain ⟨v | E, σ2⟩ := u
          · exact (hm.trans h2).trans (ih _ _ _ _ _ _ h)
          · dsimp only at h
            unfold hnd at h
            split at h
            · cases h
            · split at h
              · cases h; exact hm.trans h2
              · split at h
                · cases h; exact hm.trans h2
                · cases h
      · cases h; exact hm
      · cases h; exact hm

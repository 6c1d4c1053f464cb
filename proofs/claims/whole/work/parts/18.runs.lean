/-! WHOLE RUNS: calls, answers, throws -/
def ON (o : Option ST) : Prop := ∀ r, o = some r → ∃ q, r = .inl q
theorem ON_none : ON none := fun r h => nomatch h
theorem ON_nx {pc : Nat} {ls st : List AV} {σ : Sg} : ON (nx pc ls st σ) := fun r h => by cases h; exact ⟨_, rfl⟩
theorem ON_ite {c : Prop} [Decidable c] {a b : Option ST} (h1 : ON a) (h2 : ON b) : ON (if c then a else b) := by
  split
  · exact h1
  · exact h2
theorem ON_jmp {pc : Nat} {off : Int} {ls st : List AV} {σ : Sg} : ON (jmp pc off ls st σ) := by
  unfold jmp
  exact ON_ite ON_nx ON_none
def spec (i : Instr) : Bool := match i with
  | .ireturn | .freturn | .dreturn | .return_ | .new _ | .invokevirtual _ | .invokespecial _ | .invokestatic _ => true
  | _ => false
set_option maxHeartbeats 4000000 in
theorem stepI_on {m pc : Nat} {ls st : List AV} {σ : Sg} {ins : Instr} {a b c : Nat} (h : spec ins = false) : ON (stepI m pc ls st σ ins a b c) := by
  cases ins <;> first | (cases h; done) | (simp only [stepI, ldi, lda, ldd, sti, sta, std]; repeat' (first | exact ON_none | exact ON_nx | exact ON_jmp | refine ON_ite ?_ ?_ | split))
def RetAt (m pc : Nat) (st : List AV) (v : AV) : Prop := (decode (am_b m) pc = .ok (.ireturn, 1) ∧ st = [v] ∧ ∃ x : Int, v = AI x ∧ (am_rt m = 1 ∨ (am_rt m = 2 ∧ (x = 0 ∨ x = 1)))) ∨ (decode (am_b m) pc = .ok (.freturn, 1) ∧ st = [v] ∧ ∃ x, v = AF x ∧ am_rt m = 3)
  ∨ (decode (am_b m) pc = .ok (.dreturn, 1) ∧ st = [v] ∧ ∃ x, v = AD x ∧ am_rt m = 4) ∨ (decode (am_b m) pc = .ok (.return_, 1) ∧ st = [] ∧ v = AU ∧ am_rt m = 0)
def OCn (o : Option ST) : Prop := ∀ r, o = some r → ∃ q : (Nat × List AV × List AV × Sg) × (Nat × List AV × Nat × List AV × List AV × Sg), r = .inl q.1 ∨ r = .inr (.inl q.2)
theorem OC_none : OCn none := fun r h => nomatch h
theorem OC_nx {pc : Nat} {ls st : List AV} {σ : Sg} : OCn (nx pc ls st σ) := fun r h => by cases h; exact ⟨(_, (0, [], 0, [], [], σ)), Or.inl rfl⟩
theorem OC_ite {c : Prop} [Decidable c] {a b : Option ST} (h1 : OCn a) (h2 : OCn b) : OCn (if c then a else b) := by
  split
  · exact h1
  · exact h2
theorem OC_cal {y : Nat} {as : List AV} {pc : Nat} {ls st : List AV} {σ : Sg} : OCn (cal y as pc ls st σ) := by
  unfold cal
  exact OC_ite (fun r h => by cases h; exact ⟨((0, [], [], σ), _), Or.inr rfl⟩) OC_none
theorem stC_on {pc : Nat} {ls st : List AV} {σ : Sg} {a b c : Nat} : OCn (stC pc ls st σ a b c) := by
  unfold stC
  repeat' (first | exact OC_none | exact OC_cal | exact OC_nx | refine OC_ite ?_ ?_ | split)
theorem len_of {ins : Instr} {ln : Nat} (h : (isSw ins || decide (ln = ilen ins)) = true) (h1 : isSw ins = false) : ln = ilen ins := by
  rw [h1] at h
  simpa using h
theorem retv_inj {v v1 : AV} {σ σ1 : Sg} (h : retv v σ = retv v1 σ1) : v = v1 ∧ σ = σ1 := by cases h; exact ⟨rfl, rfl⟩
theorem step_ret (TAB : TabOK) {m pc : Nat} {al st : List AV} {σ : Sg} {v : AV} {σ1 : Sg} (hs : step m pc al st σ = some (.inr (.inr (.inl (v, σ1))))) : σ1 = σ ∧ RetAt m pc st v := by
  unfold step at hs
  split at hs
  · next pc9 ins ln a b cc w hf =>
    obtain ⟨hmem, hpc⟩ := find_at hf
    have hpc : pc9 = pc := hpc
    subst hpc
    have ht := TAB.2.1 m _ hmem
    simp only [tchk, Bool.and_eq_true, decide_eq_true_eq] at ht
    obtain ⟨⟨hd, hlen⟩, hx⟩ := ht
    by_cases hsp : spec ins = false
    · obtain ⟨q, hq⟩ := stepI_on hsp _ hs
      cases hq
    · cases ins with
      | ireturn =>
        have hl : ln = 1 := len_of hlen rfl
        subst hl
        simp only [stepI] at hs
        split at hs
        · split at hs
          · next hg =>
            obtain ⟨rfl, rfl⟩ := retv_inj hs
            exact ⟨rfl, Or.inl ⟨hd, rfl, _, rfl, hg⟩⟩
          · cases hs
        · cases hs
      | freturn =>
        have hl : ln = 1 := len_of hlen rfl
        subst hl
        simp only [stepI] at hs
        split at hs
        · split at hs
          · next hg =>
            obtain ⟨rfl, rfl⟩ := retv_inj hs
            exact ⟨rfl, Or.inr (Or.inl ⟨hd, rfl, _, rfl, hg⟩)⟩
          · cases hs
        · cases hs
      | dreturn =>
        have hl : ln = 1 := len_of hlen rfl
        subst hl
        simp only [stepI] at hs
        split at hs
        · split at hs
          · next hg =>
            obtain ⟨rfl, rfl⟩ := retv_inj hs
            exact ⟨rfl, Or.inr (Or.inr (Or.inl ⟨hd, rfl, _, rfl, hg⟩))⟩
          · cases hs
        · cases hs
      | return_ =>
        have hl : ln = 1 := len_of hlen rfl
        subst hl
        simp only [stepI] at hs
        split at hs
        · split at hs
          · next hg =>
            obtain ⟨rfl, rfl⟩ := retv_inj hs
            exact ⟨rfl, Or.inr (Or.inr (Or.inr ⟨hd, rfl, rfl, hg⟩))⟩
          · cases hs
        · cases hs
      | new i =>
        simp only [stepI] at hs
        split at hs
        · split at hs <;> cases hs
        · split at hs <;> cases hs
      | invokevirtual i => exact absurd hs (by simp only [stepI]; intro h; obtain ⟨q, hq⟩ := stC_on _ h; rcases hq with hq | hq <;> cases hq)
      | invokespecial i => exact absurd hs (by simp only [stepI]; intro h; obtain ⟨q, hq⟩ := stC_on _ h; rcases hq with hq | hq <;> cases hq)
      | invokestatic i => exact absurd hs (by simp only [stepI]; intro h; obtain ⟨q, hq⟩ := stC_on _ h; rcases hq with hq | hq <;> cases hq)
      | _ => exact absurd rfl hsp
  · cases hs

theorem step_thr (TAB : TabOK) {m pc : Nat} {al st : List AV} {σ : Sg} {E : Nat} {σ1 : Sg} (hs : step m pc al st σ = some (.inr (.inr (.inr (E, σ1))))) : σ1 = bump σ ∧ acats st ≤ 8 ∧ ∃ r ∈ am_thrs, r.1 = m ∧ r.2.1 = pc ∧ r.2.2.1 = E := by
  unfold step at hs
  split at hs
  · next pc9 ins ln a b cc w hf =>
    obtain ⟨hmem, hpc⟩ := find_at hf
    have hpc : pc9 = pc := hpc
    subst hpc
    have ht := TAB.2.1 m _ hmem
    simp only [tchk, Bool.and_eq_true, decide_eq_true_eq] at ht
    obtain ⟨⟨hd, hlen⟩, hx⟩ := ht
    by_cases hsp : spec ins = false
    · obtain ⟨q, hq⟩ := stepI_on hsp _ hs
      cases hq
    · cases ins with
      | new i =>
        simp only [stepI] at hs
        split at hs
        · next h9 =>
          dsimp only at hx
          rw [if_pos h9] at hx
          split at hs
          · next h8 =>
            cases hs
            refine ⟨rfl, h8, ?_⟩
            obtain ⟨r, h1, h2⟩ := List.any_eq_true.mp hx
            simp only [Bool.and_eq_true, decide_eq_true_eq] at h2
            exact ⟨r, h1, h2.1.1, h2.1.2, h2.2⟩
          · cases hs
        · split at hs <;> cases hs
      | ireturn =>
        simp only [stepI] at hs
        split at hs
        · split at hs <;> cases hs
        · cases hs
      | freturn =>
        simp only [stepI] at hs
        split at hs
        · split at hs <;> cases hs
        · cases hs
      | dreturn =>
        simp only [stepI] at hs
        split at hs
        · split at hs <;> cases hs
        · cases hs
      | return_ =>
        simp only [stepI] at hs
        split at hs
        · split at hs <;> cases hs
        · cases hs
      | invokevirtual i => exact absurd hs (by simp only [stepI]; intro h; obtain ⟨q, hq⟩ := stC_on _ h; rcases hq with hq | hq <;> cases hq)
      | invokespecial i => exact absurd hs (by simp only [stepI]; intro h; obtain ⟨q, hq⟩ := stC_on _ h; rcases hq with hq | hq <;> cases hq)
      | invokestatic i => exact absurd hs (by simp only [stepI]; intro h; obtain ⟨q, hq⟩ := stC_on _ h; rcases hq with hq | hq <;> cases hq)
      | _ => exact absurd rfl hsp
  · cases hs
/-- what a call step is: kind, link, receiver -/
def CallAt (m pc : Nat) (st : List AV) (σ : Sg) (y : Nat) (as : List AV) (pc1 : Nat) (st1 : List AV) : Prop := ∃ (i b cc w : Nat), pc1 = pc + 3 ∧ (acats st1 ≤ 8 ∧ as.all cat1 = true ∧ as.length ≤ am_ml y) ∧ cchk m i y b cc w = true ∧ b = (as.length - if cc = 1 ∨ cc = 4 then 0 else 1) ∧
  ((cc = 1 ∨ cc = 4) ∧ decode (am_b m) pc = .ok (.invokestatic i, 3) ∧ st = as.reverse ++ st1 ∨ (cc = 0 ∧ decode (am_b m) pc = .ok (.invokevirtual i, 3) ∨ (cc = 2 ∨ cc = 3) ∧ decode (am_b m) pc = .ok (.invokespecial i, 3)) ∧ ∃ (t : Nat) (as' : List AV), as = AR (t + 1) :: as' ∧ st = as'.reverse ++ AR (t + 1) :: st1 ∧ okd σ (t + 1) = am_ci y)
theorem cal_inj {y y1 : Nat} {as as1 : List AV} {pc pc1 : Nat} {ls ls1 st st1 : List AV} {σ σ1 : Sg} (h : cal y as pc ls st σ = some (.inr (.inl (y1, as1, pc1, ls1, st1, σ1)))) : (acats st ≤ 8 ∧ as.all cat1 = true ∧ as.length ≤ am_ml y) ∧ y = y1 ∧ as = as1 ∧ pc = pc1 ∧ ls = ls1 ∧ st = st1 ∧ σ = σ1 := by
  unfold cal at h
  split at h
  · cases h; exact ⟨by assumption, rfl, rfl, rfl, rfl, rfl, rfl⟩
  · cases h
theorem nxc {pc : Nat} {ls st : List AV} {σ : Sg} {q : Nat × List AV × Nat × List AV × List AV × Sg} {G : Prop} (h : nx pc ls st σ = some (.inr (.inl q))) : G := nomatch h
theorem ichk_cc {m i a b cc w v : Nat} (h : ichk m i a b cc w v = true) (hc : cc = 0 ∨ cc = 1 ∨ cc = 2 ∨ cc = 3 ∨ cc = 4) : cchk m i a b cc w = true ∧ (cc = 0 → v = 0) ∧ (cc = 1 ∨ cc = 4 → v = 2) ∧ (cc = 2 ∨ cc = 3 → v = 1) := by
  unfold ichk at h
  rw [if_neg (by omega), if_neg (by omega), if_neg (by omega), if_neg (by omega), if_neg (by omega), Bool.and_eq_true] at h
  refine ⟨h.1, fun h0 => ?_, fun h0 => ?_, fun h0 => ?_⟩
  · subst h0; simpa using h.2
  · rcases h0 with rfl | rfl <;> simpa using h.2
  · rcases h0 with rfl | rfl <;> simpa using h.2
theorem stC_call {m pc : Nat} {al st : List AV} {σ : Sg} {i a b cc w v : Nat} {y pc1 : Nat} {as al1 st1 : List AV} {σ1 : Sg} (hd : ∀ u, v = u → decode (am_b m) pc = .ok (if u = 0 then .invokevirtual i else if u = 1 then .invokespecial i else .invokestatic i, 3)) (hw : ichk m i a b cc w v = true) (hs : stC pc al st σ a b cc = some (.inr (.inl (y, as, pc1, al1, st1, σ1)))) : σ1 = σ ∧ al1 = al ∧ CallAt m pc st σ y as pc1 st1 := by
  unfold stC at hs
  split at hs
  · next hcc =>
    split at hs
    · next hb =>
      obtain ⟨h8, rfl, rfl, rfl, rfl, rfl, rfl⟩ := cal_inj hs
      obtain ⟨q1, q2, q3, q4⟩ := ichk_cc hw (by omega)
      refine ⟨rfl, rfl, i, b, cc, w, rfl, h8, q1, ?_, Or.inl ⟨hcc, hd 2 (q3 hcc), ?_⟩⟩
      · rw [if_pos hcc]
        simp
        omega
      · simp
    · cases hs
  · next hn =>
    split at hs
    · next hcc =>
      split at hs
      · next t rest hdr =>
        split at hs
        · next hok =>
          obtain ⟨h8, rfl, rfl, rfl, rfl, rfl, rfl⟩ := cal_inj hs
          obtain ⟨q1, q2, q3, q4⟩ := ichk_cc hw (by omega)
          have hbl : b ≤ st.length := by
            by_cases h9 : b ≤ st.length
            · exact h9
            · rw [List.drop_eq_nil_of_le (by omega)] at hdr; cases hdr
          refine ⟨rfl, rfl, i, b, cc, w, rfl, h8, q1, ?_, Or.inr ⟨?_, t, (st.take b).reverse, rfl, ?_, hok⟩⟩
          · rw [if_neg hn]
            simp
            omega
          · rcases hcc with h | h | h
            · exact Or.inl ⟨h, hd 0 (q2 h)⟩
            · exact Or.inr ⟨Or.inl h, hd 1 (q4 (Or.inl h))⟩
            · exact Or.inr ⟨Or.inr h, hd 1 (q4 (Or.inr h))⟩
          · rw [List.reverse_reverse, ← hdr, List.take_append_drop]
        · cases hs
      · cases hs
    · split at hs
      · split at hs
        · split at hs <;> cases hs
        · cases hs
      · split at hs
        · split at hs
          · split at hs <;> cases hs
          · cases hs
        · split at hs
          · split at hs
            · split at hs <;> cases hs
            · cases hs
          · split at hs
            · split at hs
              · split at hs <;> cases hs
              · cases hs
            · cases hs
theorem step_call (TAB : TabOK) {m pc : Nat} {al st : List AV} {σ : Sg} {y pc1 : Nat} {as al1 st1 : List AV} {σ1 : Sg} (hs : step m pc al st σ = some (.inr (.inl (y, as, pc1, al1, st1, σ1)))) : σ1 = σ ∧ al1 = al ∧ CallAt m pc st σ y as pc1 st1 := by
  unfold step at hs
  split at hs
  · next pc9 ins ln a b cc w hf =>
    obtain ⟨hmem, hpc⟩ := find_at hf
    have hpc : pc9 = pc := hpc
    subst hpc
    have ht := TAB.2.1 m _ hmem
    simp only [tchk, Bool.and_eq_true, decide_eq_true_eq] at ht
    obtain ⟨⟨hd, hlen⟩, hx⟩ := ht
    by_cases hsp : spec ins = false
    · obtain ⟨q, hq⟩ := stepI_on hsp _ hs
      cases hq
    · cases ins with
      | new i =>
        simp only [stepI] at hs
        split at hs
        · split at hs <;> cases hs
        · split at hs <;> cases hs
      | ireturn =>
        simp only [stepI] at hs
        split at hs
        · split at hs <;> cases hs
        · cases hs
      | freturn =>
        simp only [stepI] at hs
        split at hs
        · split at hs <;> cases hs
        · cases hs
      | dreturn =>
        simp only [stepI] at hs
        split at hs
        · split at hs <;> cases hs
        · cases hs
      | return_ =>
        simp only [stepI] at hs
        split at hs
        · split at hs <;> cases hs
        · cases hs
      | invokevirtual i =>
        have hl : ln = 3 := len_of hlen rfl
        subst hl
        exact stC_call (fun u hu => by subst hu; exact hd) hx hs
      | invokespecial i =>
        have hl : ln = 3 := len_of hlen rfl
        subst hl
        exact stC_call (fun u hu => by subst hu; exact hd) hx hs
      | invokestatic i =>
        have hl : ln = 3 := len_of hlen rfl
        subst hl
        exact stC_call (fun u hu => by subst hu; exact hd) hx hs
      | _ => exact absurd rfl hsp
  · cases hs

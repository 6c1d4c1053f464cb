section SN4
variable {base : Nat} {sx : Nat → Nat} {dC : Nat → ClassId} {dI : Nat → Nat → Nat} {l : Launch}
theorem find_hn {E : Nat} {hh : List (Nat × Nat × Nat × Nat)} {hn : List (Nat × Int)} {q : Nat × Int} (hlen : hh.length = hn.length) (hf : hn.find? (fun q => q.1 == E) = some q) : ∃ (pre suf : List ((Nat × Nat × Nat × Nat) × (Nat × Int))) (x : Nat × Nat × Nat × Nat), hh.zip hn = pre ++ (x, q) :: suf ∧ q.1 = E ∧ ∀ z ∈ pre, z.2.1 ≠ E := by
  induction hh generalizing hn with
  | nil =>
    cases hn with
    | nil => cases hf
    | cons a b => cases hlen
  | cons x hh ih =>
    cases hn with
    | nil => cases hf
    | cons a b =>
      rw [List.find?_cons] at hf
      split at hf
      · next hE =>
        cases hf
        exact ⟨[], hh.zip b, x, rfl, by simpa using hE, fun z hz => nomatch hz⟩
      · next hE =>
        obtain ⟨pre, suf, x1, h1, h2, h3⟩ := ih (by simpa using hlen) hf
        refine ⟨(x, a) :: pre, suf, x1, by rw [List.zip_cons_cons, h1]; rfl, h2, fun z hz => ?_⟩
        rcases List.mem_cons.mp hz with h | h
        · subst h
          simpa using hE
        · exact h3 z h
section
variable {p : Program} {e : Env} {R : Room} {s : State} {mi : MethodId} {args : Array Value} {below : List Frame} {meth : Method} {c : Code} {Q : State → Prop} {m n0 m0 : Nat} {H : Heap} {locs : List Loc} {cells slots : Nat}
/-- a handler: astore; iconst; ireturn -/
theorem caught (TAB : TabOK) (hm : m < 312) {pc : Nat} {al st : List AV} {ls : Array Slot} {σ : Sg} (C : CX p l R s mi meth c m) (hTB : TB m c) (hE : Ex base sx σ s s.heap) {E : Nat} {σ2 : Sg} {o : Out} (hn0 : am_hn m ≠ []) {q9 : Nat × Int} (hf : (am_hn m).find? (fun q => q.1 == E) = some q9) (ho : o = (.inl (AI q9.2), σ2)) (hHE : HE base sx dC dI p l e R s mi args below meth c Q m n0 m0 o)
    (hL : LH base sx ls al) (hn : al.length = am_ml m) (hW : Wd base dC dI σ2 s H) (hS : va_S (fun q => base ≤ q) s.heap H locs) (c1 : cells + n0 = σ2.2.2.1) (c2 : slots + m0 = σ2.2.2.2.1) {ce : Cell} {q : Addr} (hce : H[q]? = some ce) (hcv : ce.vm = .none) (hcl : s.vm.findClass (am_exn.getD E "") = some ce.cls)
    (hcall : ∃ (ins : Instr) (a b cc w ln : Nat), (pc, ins, ln, a, b, cc, w) ∈ am_code m ∧ (∃ i, ins = .invokevirtual i ∨ ins = .invokespecial i ∨ ins = .invokestatic i)) {rest : List Value} : vx_W p l e R s mi args below meth c H locs cells slots Q (F0 mi pc ls rest) q := by
  have hch := TAB.2.2.1 m hm
  unfold hchk at hch
  cases hh : am_hh m with
  | none =>
    rw [hh] at hch
    exact absurd (by simpa using hch) hn0
  | some hl9 =>
    rw [hh] at hch
    simp only [Bool.and_eq_true, decide_eq_true_eq] at hch
    obtain ⟨⟨hlen, -⟩, hall⟩ := hch
    obtain ⟨pre, suf, x, hz, hq1, hpre⟩ := find_hn hlen hf
    have hrw := fun z hz => List.all_eq_true.mp hall z hz
    have hx := hrw (x, q9) (by rw [hz]; simp)
    simp only [hrow, Bool.and_eq_true, decide_eq_true_eq] at hx
    obtain ⟨⟨⟨⟨⟨⟨⟨⟨⟨h0, h4⟩, hlk⟩, hlk2⟩, hast⟩, hic⟩, hir⟩, hret⟩, hwr⟩, hcov⟩ := hx
    obtain ⟨ins, a, b, cc, w, ln, hmem, i9, hins⟩ := hcall
    have hcv9 : x.1 ≤ pc ∧ pc < x.2.1 := by
      have h9 := List.all_eq_true.mp hcov _ hmem
      rcases hins with rfl | rfl | rfl
      · simpa using h9
      · cases h9
      · cases h9
    have hsplit : c.exceptionTable.toList = tableOf (pre.map Prod.fst) ++ (⟨x.1, x.2.1, x.2.2.1, x.2.2.2⟩ : ExceptionTableEntry) :: tableOf (suf.map Prod.fst) := by
      rw [hTB.2 _ hh]
      have h9 : hl9 = (hl9.zip (am_hn m)).map Prod.fst := by rw [List.map_fst_zip (by omega)]
      rw [h9, hz]
      simp [tableOf]
    have hE4 : E < 4 := by rw [← hq1]; exact h4
    refine vx_catch C.2.2.2.1 _ _ _ hsplit (fun z hz9 => ?_) ?_ h0 (okW_use hlk2 (hE.1 _ hlk hlk2)) (E := am_exn.getD E "") ?_ hce hcv hcl ?_
    · simp only [tableOf, List.mem_map] at hz9
      obtain ⟨z1, ⟨z0, hz0, rfl⟩, rfl⟩ := hz9
      have hx0 := hrw z0 (by rw [hz]; exact List.mem_append_left _ hz0)
      simp only [hrow, Bool.and_eq_true, decide_eq_true_eq] at hx0
      obtain ⟨⟨⟨⟨⟨⟨⟨⟨⟨g0, g4⟩, glk⟩, glk2⟩, -⟩, -⟩, -⟩, -⟩, -⟩, -⟩ := hx0
      exact Or.inr ⟨g0, _, okW_use glk2 (hE.1 _ glk glk2), hE.2.2.2.2.2.2.2.2.2.2.2.2.2 E z0.2.1 hE4 g4 (fun h => hpre z0 hz0 h.symm)⟩
    · show covers _ pc = true
      unfold covers
      simp [hcv9.1, hcv9.2]
    · rw [← hq1]
      have h9 := TAB.2.2.2.2 q9.1 h4
      exact okW_use h9.2 (hE.1 _ h9.1 h9.2)
    · show W p l e R s mi args below meth c H locs cells slots Q (F0 mi x.2.2.1 ls [.ref q])
      have fin : ∀ ls', W p l e R s mi args below meth c H locs cells slots Q (F0 mi (x.2.2.1 + astL m x.2.2.1) ls' []) := fun ls' => by
        refine lv_iconst (v := Int32.ofInt q9.2) C.1 C.2.1 hic rfl ?_
        exact hHE (AI q9.2) σ2 ho H locs cells slots ls' _ [AI q9.2] (Or.inl ⟨hir, rfl, _, rfl, Or.inl hret⟩) (by show inR q9.2; rw [← hwr]; exact inR_wr _) hW hS c1 c2
      unfold astOK at hast
      split at hast
      · next i hd =>
        have hi : i.val < al.length := by rw [hn]; simpa using hast
        have hl1 : astL m x.2.2.1 = 1 := by unfold astL; rw [hd]
        rw [hl1] at fin
        exact lv_astore_n C.1 C.2.1 hd rfl hL.has hi rfl (fun ls' h' => fin ls')
      · next i hd =>
        have hi : i < al.length := by rw [hn]; simpa using hast
        have hl1 : astL m x.2.2.1 = 2 := by unfold astL; rw [hd]
        rw [hl1] at fin
        exact lv_astore C.1 C.2.1 hd hL.has hi rfl (fun ls' h' => fin ls')
      · cases hast
theorem call_mem {m pc : Nat} {al st : List AV} {σ : Sg} {y pc1 : Nat} {as al1 st1 : List AV} {σ1 : Sg} (hs : step m pc al st σ = some (.inr (.inl (y, as, pc1, al1, st1, σ1)))) : ∃ (ins : Instr) (a b cc w ln : Nat), (pc, ins, ln, a, b, cc, w) ∈ am_code m ∧ (∃ i, ins = .invokevirtual i ∨ ins = .invokespecial i ∨ ins = .invokestatic i) := by
  unfold step at hs
  split at hs
  · next pc9 ins ln a b cc w hf =>
    obtain ⟨hmem, hpc⟩ := find_at hf
    have hpc : pc9 = pc := hpc
    subst hpc
    refine ⟨ins, a, b, cc, w, ln, hmem, ?_⟩
    by_cases hsp : spec ins = false
    · obtain ⟨q, hq⟩ := stepI_on hsp _ hs
      cases hq
    · cases ins with
      | new i =>
        simp only [stepI] at hs
        split at hs
        · split at hs <;> cases hs
        · split at hs <;> cases hs
      | ireturn =>
        simp only [stepI] at hs
        split at hs
        · split at hs <;> cases hs
        · cases hs
      | freturn =>
        simp only [stepI] at hs
        split at hs
        · split at hs <;> cases hs
        · cases hs
      | dreturn =>
        simp only [stepI] at hs
        split at hs
        · split at hs <;> cases hs
        · cases hs
      | return_ =>
        simp only [stepI] at hs
        split at hs
        · split at hs <;> cases hs
        · cases hs
      | invokevirtual i => exact ⟨i, Or.inl rfl⟩
      | invokespecial i => exact ⟨i, Or.inr (Or.inl rfl)⟩
      | invokestatic i => exact ⟨i, Or.inr (Or.inr rfl)⟩
      | _ => exact absurd rfl hsp
  · cases hs
end
/-- THE SMALL MACHINE IS SOUND -/
theorem sound (TAB : TabOK) (U : UW) (hl : l.stackTraces = false) (hm : ∀ m pc, am_find (am_code m) pc ≠ none → m < 313) (hlaw : am_hn 312 = [] ∧ am_hh 312 = none) : ∀ n, PN base sx dC dI l n := by
  intro n
  induction n with
  | zero => intro m pc al st σ o h; cases h
  | succ n ih =>
    intro m pc al st σ o h p e R s mi args below meth c Q n0 m0 C hTB hHE hHT hB hE hRc hRs
    rw [run] at h
    cases hs : step m pc al st σ with
    | none => rw [hs] at h; cases h
    | some q =>
      have hmono := step_mono (m := m) (pc := pc) (ls := al) (st := st) (σ := σ) q hs
      rw [hs] at h
      rcases q with ⟨pc1, al1, st1, σ1⟩ | ⟨y, as, pc1, al1, st1, σ1⟩ | ⟨v, σ1⟩ | ⟨E, σ1⟩
      · -- on
        have h2 := run_monoS _ _ _ _ _ _ _ h
        have hE1 : Ex base sx σ1 s s.heap := Ex.go (State.WarmedH.refl s) (fun _ _ _ => rfl) hmono.1 hE
        exact nxt TAB U C hE hB hs (Nat.le_trans h2.2.1 hRc) (Nat.le_trans h2.2.2 hRs) (ih m pc1 al1 st1 σ1 o h p e R s mi args below meth c Q n0 m0 C hTB hHE hHT hB hE1 hRc hRs)
      · -- a call
        dsimp only at h
        obtain ⟨rfl, rfl, hca⟩ := step_call TAB hs
        have hmem := call_mem hs
        cases hc : run n y 0 (entryL y as) [] σ1 with
        | none => rw [hc] at h; cases h
        | some u =>
          rw [hc] at h
          intro H locs cells slots ls hL hn ha hst hW hS h1 h2
          refine W.size (fun hz => ?_)
          have hmu := run_monoS _ _ _ _ _ _ _ hc
          obtain ⟨i, b, cc, w, hpc1, ⟨h8, hcat, hlen⟩, hck, -, hk⟩ := id hca
          have hy : y < 312 := by
            simp only [cchk, Bool.and_eq_true, decide_eq_true_eq] at hck
            exact hck.1.1.1.1.1.1.1
          have hok : (∀ v ∈ as, okA v) ∧ ∀ v ∈ st1, okA v := by
            rcases hk with ⟨-, -, hst9⟩ | ⟨-, t, as', has, hst9, -⟩
            · rw [hst9] at hst
              exact ⟨fun v hv => hst v (List.mem_append_left _ (List.mem_reverse.mpr hv)), fun v hv => hst v (List.mem_append_right _ hv)⟩
            · rw [hst9] at hst
              rw [has]
              exact ⟨okc trivial (fun v hv => hst v (List.mem_append_left _ (List.mem_reverse.mpr hv))), fun v hv => hst v (List.mem_append_right _ (List.mem_cons_of_mem _ hv))⟩
          have hM := met_of TAB hl ih hy hc hlen hcat hok.1
          have hou : u.2.2.2.1 ≤ o.2.2.2.1 ∧ u.2.2.2.2.1 ≤ o.2.2.2.2.1 ∧ (am_nt y = true → ∃ v σ1, u = (.inl v, σ1)) := by
            obtain ⟨v | E, σ2⟩ := u
            · have h9 := run_monoS _ _ _ _ _ _ _ h
              exact ⟨h9.2.1, h9.2.2, fun _ => ⟨v, σ2, rfl⟩⟩
            · dsimp only at h
              unfold hnd at h
              split at h
              · cases h
              · next hnt =>
                split at h
                · cases h; exact ⟨Nat.le_refl _, Nat.le_refl _, fun h9 => absurd h9 hnt⟩
                · split at h
                  · cases h; exact ⟨Nat.le_refl _, Nat.le_refl _, fun h9 => absurd h9 hnt⟩
                  · cases h
          obtain ⟨a, hr⟩ := call_run (e := e) (args := args) (below := below) (locs := locs) (R := R) (cells := cells) (slots := slots) TAB C hE hca hM hou.2.2 hL hn hW hS hB.1 (by omega) (by have := hmu.2.1; omega) (by have := hmu.2.2; omega)
          have hE2 : ∀ σ2 x, u = (x, σ2) → Ex base sx σ2 s s.heap := fun σ2 x hu => by
            subst hu
            exact Ex.go (State.WarmedH.refl s) (fun _ _ _ => rfl) hmu.1 hE
          refine go_call hr hS (fun k σ2 ce q H1 locs1 hu hW1 hS1 hce hcv hcl => ?_) (fun v σ2 H1 locs1 hu hokv hW1 hS1 => ?_)
          · subst hu
            dsimp only at h
            have e1 : cells + (σ2.2.2.1 - σ1.2.2.1) + n0 = σ2.2.2.1 := by have := hmu.2.1; have h9 : σ1.2.2.1 ≤ σ2.2.2.1 := this; omega
            have e2 : slots + (σ2.2.2.2.1 - σ1.2.2.2.1) + m0 = σ2.2.2.2.1 := by have := hmu.2.2; have h9 : σ1.2.2.2.1 ≤ σ2.2.2.2.1 := this; omega
            unfold hnd at h
            split at h
            · cases h
            · split at h
              · next hnil =>
                cases h
                obtain ⟨Qc, XC, mc, ms, rfl, g1, g2, g3⟩ := hHT k σ2 rfl
                have hhh : am_hh m = none := by
                  cases hh : am_hh m with
                  | none => rfl
                  | some z =>
                    by_cases hm2 : m < 312
                    · have h9 := TAB.2.2.1 m hm2
                      unfold hchk at h9
                      rw [hh] at h9
                      simp only [Bool.and_eq_true] at h9
                      rw [hnil] at h9
                      cases h9.1.2
                    · have h9 := hm m pc (by
                        unfold step at hs
                        intro h9
                        rw [h9] at hs
                        cases hs)
                      have h8 : m = 312 := by omega
                      subst h8
                      rw [hlaw.2] at hh
                      cases hh
                exact vx_out (fun x hx => absurd (hTB.1 hhh x hx) id) C.2.2.2.2.2.1 hce hcv hcl (fun t ht hvm => g3 t hvm (by rw [ht]; exact hW1.moved hvm) (hS1.F ht)) hS1.2.2 (by show cells + (σ2.2.2.1 - σ1.2.2.1) ≤ mc; omega) (by show slots + (σ2.2.2.2.1 - σ1.2.2.2.1) ≤ ms; omega)
              · next hnil =>
                split at h
                · next q9 hf =>
                  cases h
                  have hm2 : m < 312 := by
                    have h9 := hm m pc (by
                      unfold step at hs
                      intro h9
                      rw [h9] at hs
                      cases hs)
                    by_cases h8 : m = 312
                    · subst h8; exact absurd hlaw.1 hnil
                    · omega
                  exact caught (st := []) TAB hm2 C hTB hE hnil hf rfl hHE hL hn hW1 hS1 e1 e2 hce hcv hcl hmem
                · cases h
          · subst hu
            dsimp only at h
            have e1 : cells + (σ2.2.2.1 - σ1.2.2.1) + n0 = σ2.2.2.1 := by have := hmu.2.1; have h9 : σ1.2.2.1 ≤ σ2.2.2.1 := this; omega
            have e2 : slots + (σ2.2.2.2.1 - σ1.2.2.2.1) + m0 = σ2.2.2.2.1 := by have := hmu.2.2; have h9 : σ1.2.2.2.1 ≤ σ2.2.2.2.1 := this; omega
            have hk2 := ih m pc1 al1 (pushV y v st1) σ2 o h p e R s mi args below meth c Q n0 m0 C hTB hHE hHT hB (hE2 σ2 _ rfl) hRc hRs H1 locs1 _ _ ls hL hn ha (by
              unfold pushV
              split
              · exact hok.2
              · exact okc hokv hok.2) hW1 hS1 e1 e2
            have hst9 : (rv base sx y v).toList ++ st1.map (cv base sx) = (pushV y v st1).map (cv base sx) := by
              unfold rv pushV
              split
              · rfl
              · rfl
            rw [hst9, ← hpc1]
            exact hk2
      · -- an answer
        obtain ⟨rfl, hq⟩ := step_ret TAB hs
        cases h
        intro H locs cells slots ls hL hn ha hst hW hS h1 h2
        refine hHE v σ1 rfl H locs cells slots ls pc st hq ?_ hW hS h1 h2
        rcases hq with ⟨-, rfl, -⟩ | ⟨-, rfl, -⟩ | ⟨-, rfl, -⟩ | ⟨-, -, rfl, -⟩
        · exact hst v List.mem_cons_self
        · exact hst v List.mem_cons_self
        · exact hst v List.mem_cons_self
        · exact trivial
      · -- a throw
        obtain ⟨rfl, h8, r, hr1, hr2, hr3, hr4⟩ := step_thr TAB hs
        cases h
        intro H locs cells slots ls hL hn ha hst hW hS h1 h2
        obtain ⟨Qc, XC, mc, ms, rfl, g1, g2, g3⟩ := hHT E (bump σ) rfl
        subst hr4
        have g1' : σ.2.2.1 + 1 ≤ n0 + mc := g1
        have g2' : σ.2.2.2.1 + 6 ≤ m0 + ms := g2
        have hRc' : σ.2.2.1 + 1 ≤ n0 + R.cells := hRc
        have hRs' : σ.2.2.2.1 + 6 ≤ m0 + R.slots := hRs
        exact throw_MQ TAB C hTB hE hr1 hr2 hr3 h8 hL hn hW hS (by omega) (by omega) (by omega) (by omega) g3
end SN4

/-! THE STEP THEOREM -/
section NXT
variable {base : Nat} {sx : Nat → Nat} {dC : Nat → ClassId} {dI : Nat → Nat → Nat} {p : Program} {l : Launch} {e : Env} {R : Room} {s : State} {mi : MethodId} {args : Array Value} {below : List Frame} {meth : Method} {c : Code} {Q : State → Prop} {m n0 m0 pc : Nat} {al st : List AV} {σ : Sg}
theorem k_ldcS (C : CX p l R s mi meth c m) (hE : Ex base sx σ s s.heap) {i a : Nat} (hx : (decide ((am_strs[a - 1]?).map (fun q => (q.1, q.2.1)) = some (am_own m, i)) && decide (0 < a)) = true) : ∃ tx, vk_R (am_own m) i tx (sx a) s := by
  simp only [Bool.and_eq_true, decide_eq_true_eq] at hx
  obtain ⟨h1, h2⟩ := hx
  obtain ⟨a, rfl⟩ : ∃ j, a = j + 1 := ⟨a - 1, by omega⟩
  rw [Nat.add_sub_cancel] at h1
  have hlt : a < am_strs.length := by
    cases hq : am_strs[a]? with
    | none => rw [hq] at h1; cases h1
    | some q => exact (List.getElem?_eq_some_iff.mp hq).1
  obtain ⟨q, ad, g0, g1, -⟩ := hE.2.2.2.2.1 a hlt
  rw [g0] at h1
  simp only [Option.map_some, Option.some.injEq, Prod.mk.injEq] at h1
  rw [h1.1, h1.2] at g1
  exact ⟨_, g1⟩
theorem k_ldc (C : CX p l R s mi meth c m) (hE : Ex base sx σ s s.heap) {i a : Nat} (hd : decode (am_b m) pc = .ok (.ldc i, 2)) (hx : (decide ((am_strs[a - 1]?).map (fun q => (q.1, q.2.1)) = some (am_own m, i)) && decide (0 < a)) = true) (k : Kt base sx dC dI p l e R s mi args below meth c Q m n0 m0 (pc + 2) (al) (AS a :: st) (σ)) : Kt base sx dC dI p l e R s mi args below meth c Q m n0 m0 (pc) (al) (st) (σ) := by
  intro H locs cells slots ls hL hn ha hst hW hS h1 h2
  obtain ⟨tx, hv⟩ := k_ldcS C hE hx
  exact va_ldcS C.1 C.2.1 C.2.2.2.1 hv hd (k H locs cells slots ls hL hn ha (okc trivial hst) hW hS h1 h2)
theorem k_ldcw (C : CX p l R s mi meth c m) (hE : Ex base sx σ s s.heap) {i a : Nat} (hd : decode (am_b m) pc = .ok (.ldc_w i, 3)) (hx : (decide ((am_strs[a - 1]?).map (fun q => (q.1, q.2.1)) = some (am_own m, i)) && decide (0 < a)) = true) (k : Kt base sx dC dI p l e R s mi args below meth c Q m n0 m0 (pc + 3) (al) (AS a :: st) (σ)) : Kt base sx dC dI p l e R s mi args below meth c Q m n0 m0 (pc) (al) (st) (σ) := by
  intro H locs cells slots ls hL hn ha hst hW hS h1 h2
  obtain ⟨tx, hv⟩ := k_ldcS C hE hx
  intro T hT X
  obtain ⟨t, a1, b1⟩ := (k H locs cells slots ls hL hn ha (okc trivial hst) hW hS h1 h2) T hT X
  exact ⟨t, X.ldcStringW C.1 C.2.2.2.1 (text := tx) (a := sx a) hv.1 hv.2 (g := F0 mi pc ls (st.map (cv base sx))) rfl (by rw [C.2.1]; exact hd) t a1, b1⟩
theorem cv_ref_R (k : Nat) : cv base sx (AR (k + 1)) = .ref (base + k) := rfl
set_option maxHeartbeats 2000000 in
theorem nxt (TAB : TabOK) (U : UW) (C : CX p l R s mi meth c m) (hE : Ex base sx σ s s.heap) (hB : base ≤ s.heap.size ∧ s.heap.size ≤ base + n0) {pc1 : Nat} {al1 st1 : List AV} {σ1 : Sg} (hs : step m pc al st σ = nx pc1 al1 st1 σ1) (hc : σ1.2.2.1 ≤ n0 + R.cells) (hs2 : σ1.2.2.2.1 ≤ m0 + R.slots) (k : Kt base sx dC dI p l e R s mi args below meth c Q m n0 m0 (pc1) (al1) (st1) (σ1)) : Kt base sx dC dI p l e R s mi args below meth c Q m n0 m0 (pc) (al) (st) (σ) := by
  unfold step at hs
  split at hs
  · next pc9 ins ln a b cc w hf =>
    obtain ⟨hmem, hpc⟩ := find_at hf
    have hpc : pc9 = pc := hpc
    subst hpc
    have ht := TAB.2.1 m _ hmem
    simp only [tchk, Bool.and_eq_true, decide_eq_true_eq] at ht
    obtain ⟨⟨hd, hlen⟩, hx⟩ := ht
    have hl9 : isSw ins = false → ln = ilen ins := fun h => by
      rw [h] at hlen
      simpa using hlen
    cases ins with
    | iconst n =>
      have hlen := hl9 rfl
      subst hlen
      simp only [stepI] at hs
      obtain ⟨rfl, rfl, rfl, rfl⟩ := nx_inj hs
      exact k_iconst C hd k
    | bipush n =>
      have hlen := hl9 rfl
      subst hlen
      simp only [stepI] at hs
      obtain ⟨rfl, rfl, rfl, rfl⟩ := nx_inj hs
      exact k_bipush C hd k
    | sipush n =>
      have hlen := hl9 rfl
      subst hlen
      simp only [stepI] at hs
      obtain ⟨rfl, rfl, rfl, rfl⟩ := nx_inj hs
      exact k_sipush C hd k
    | lconst n =>
      have hlen := hl9 rfl
      subst hlen
      simp only [stepI] at hs
      obtain ⟨rfl, rfl, rfl, rfl⟩ := nx_inj hs
      exact k_lconst C hd k
    | fconst n =>
      have hlen := hl9 rfl
      subst hlen
      simp only [stepI] at hs
      split at hs
      · next hg =>
        have : n = 1 := Fin.ext hg
        subst this
        obtain ⟨rfl, rfl, rfl, rfl⟩ := nx_inj hs
        exact k_fconst C hd k
      · exact nxn hs
    | dconst n =>
      have hlen := hl9 rfl
      subst hlen
      simp only [stepI] at hs
      split at hs
      · next hg =>
        have : n = 0 := Fin.ext hg
        subst this
        obtain ⟨rfl, rfl, rfl, rfl⟩ := nx_inj hs
        exact k_dconst C hd k
      · exact nxn hs
    | ldc i =>
      have hlen := hl9 rfl
      subst hlen
      simp only [stepI] at hs
      obtain ⟨rfl, rfl, rfl, rfl⟩ := nx_inj hs
      exact k_ldc C hE hd hx k
    | ldc_w i =>
      have hlen := hl9 rfl
      subst hlen
      simp only [stepI] at hs
      obtain ⟨rfl, rfl, rfl, rfl⟩ := nx_inj hs
      exact k_ldcw C hE hd hx k
    | iload i =>
      have hlen := hl9 rfl
      subst hlen
      simp only [stepI] at hs
      unfold ldi at hs
      split at hs
      · next hg =>
        obtain ⟨rfl, rfl, rfl, rfl⟩ := nx_inj hs
        exact k_iload C hd hg k
      · exact nxn hs
    | iload_n i =>
      have hlen := hl9 rfl
      subst hlen
      simp only [stepI] at hs
      unfold ldi at hs
      split at hs
      · next hg =>
        obtain ⟨rfl, rfl, rfl, rfl⟩ := nx_inj hs
        exact k_iload_n C hd hg k
      · exact nxn hs
    | dload i =>
      have hlen := hl9 rfl
      subst hlen
      simp only [stepI] at hs
      unfold ldd at hs
      split at hs
      · next hg =>
        obtain ⟨rfl, rfl, rfl, rfl⟩ := nx_inj hs
        exact k_dload C hd hg k
      · exact nxn hs
    | aload i =>
      have hlen := hl9 rfl
      subst hlen
      simp only [stepI] at hs
      unfold lda at hs
      split at hs
      · next hg =>
        obtain ⟨rfl, rfl, rfl, rfl⟩ := nx_inj hs
        exact k_aload C hd hg rfl (by simp) trivial k
      · next hg =>
        obtain ⟨rfl, rfl, rfl, rfl⟩ := nx_inj hs
        exact k_aload C hd hg rfl (by simp) trivial k
      · exact nxn hs
    | aload_n i =>
      have hlen := hl9 rfl
      subst hlen
      simp only [stepI] at hs
      unfold lda at hs
      split at hs
      · next hg =>
        obtain ⟨rfl, rfl, rfl, rfl⟩ := nx_inj hs
        exact k_aload_n C hd hg rfl (by simp) trivial k
      · next hg =>
        obtain ⟨rfl, rfl, rfl, rfl⟩ := nx_inj hs
        exact k_aload_n C hd hg rfl (by simp) trivial k
      · exact nxn hs
    | istore i =>
      have hlen := hl9 rfl
      subst hlen
      simp only [stepI] at hs
      unfold sti at hs
      split at hs
      · split at hs
        · next hg =>
          obtain ⟨rfl, rfl, rfl, rfl⟩ := nx_inj hs
          exact k_istore C hd hg k
        · exact nxn hs
      · exact nxn hs
    | istore_n i =>
      have hlen := hl9 rfl
      subst hlen
      simp only [stepI] at hs
      unfold sti at hs
      split at hs
      · split at hs
        · next hg =>
          obtain ⟨rfl, rfl, rfl, rfl⟩ := nx_inj hs
          exact k_istore_n C hd hg k
        · exact nxn hs
      · exact nxn hs
    | astore i =>
      have hlen := hl9 rfl
      subst hlen
      simp only [stepI] at hs
      unfold sta at hs
      split at hs
      · split at hs
        · next hg =>
          obtain ⟨rfl, rfl, rfl, rfl⟩ := nx_inj hs
          exact k_astore C hd hg k
        · exact nxn hs
      · exact nxn hs
    | astore_n i =>
      have hlen := hl9 rfl
      subst hlen
      simp only [stepI] at hs
      unfold sta at hs
      split at hs
      · split at hs
        · next hg =>
          obtain ⟨rfl, rfl, rfl, rfl⟩ := nx_inj hs
          exact k_astore_n C hd hg k
        · exact nxn hs
      · exact nxn hs
    | dstore i =>
      have hlen := hl9 rfl
      subst hlen
      simp only [stepI] at hs
      unfold std at hs
      split at hs
      · split at hs
        · next hg =>
          obtain ⟨rfl, rfl, rfl, rfl⟩ := nx_inj hs
          exact k_dstore C hd hg k
        · exact nxn hs
      · exact nxn hs
    | iinc i d =>
      have hlen := hl9 rfl
      subst hlen
      simp only [stepI] at hs
      split at hs
      · next hg =>
        obtain ⟨rfl, rfl, rfl, rfl⟩ := nx_inj hs
        exact k_iinc C hd hg k
      · exact nxn hs
    | dup =>
      have hlen := hl9 rfl
      subst hlen
      simp only [stepI] at hs
      split at hs
      · split at hs
        · next hg =>
          obtain ⟨rfl, rfl, rfl, rfl⟩ := nx_inj hs
          exact k_dup C hd hg k
        · exact nxn hs
      · exact nxn hs
    | dup2 =>
      have hlen := hl9 rfl
      subst hlen
      simp only [stepI] at hs
      split at hs
      · split at hs
        · next hg =>
          obtain ⟨rfl, rfl, rfl, rfl⟩ := nx_inj hs
          exact k_dup2 C hd (by simp only [Bool.and_eq_true] at hg; exact hg.1) (by simp only [Bool.and_eq_true] at hg; exact hg.2) k
        · exact nxn hs
      · exact nxn hs
    | pop =>
      have hlen := hl9 rfl
      subst hlen
      simp only [stepI] at hs
      split at hs
      · split at hs
        · next hg =>
          obtain ⟨rfl, rfl, rfl, rfl⟩ := nx_inj hs
          exact k_pop C hd hg k
        · exact nxn hs
      · exact nxn hs
    | iadd =>
      have hlen := hl9 rfl
      subst hlen
      simp only [stepI] at hs
      split at hs
      · obtain ⟨rfl, rfl, rfl, rfl⟩ := nx_inj hs
        exact k_iadd C hd k
      · exact nxn hs
    | isub =>
      have hlen := hl9 rfl
      subst hlen
      simp only [stepI] at hs
      split at hs
      · obtain ⟨rfl, rfl, rfl, rfl⟩ := nx_inj hs
        exact k_isub C hd k
      · exact nxn hs
    | imul =>
      have hlen := hl9 rfl
      subst hlen
      simp only [stepI] at hs
      split at hs
      · obtain ⟨rfl, rfl, rfl, rfl⟩ := nx_inj hs
        exact k_imul C hd k
      · exact nxn hs
    | i2l =>
      have hlen := hl9 rfl
      subst hlen
      simp only [stepI] at hs
      split at hs
      · obtain ⟨rfl, rfl, rfl, rfl⟩ := nx_inj hs
        exact k_i2l C hd k
      · exact nxn hs
    | lcmp =>
      have hlen := hl9 rfl
      subst hlen
      simp only [stepI] at hs
      split at hs
      · obtain ⟨rfl, rfl, rfl, rfl⟩ := nx_inj hs
        exact k_lcmp C hd k
      · exact nxn hs
    | i2f =>
      have hlen := hl9 rfl
      subst hlen
      simp only [stepI] at hs
      split at hs
      · obtain ⟨rfl, rfl, rfl, rfl⟩ := nx_inj hs
        exact k_i2f C hd k
      · exact nxn hs
    | i2d =>
      have hlen := hl9 rfl
      subst hlen
      simp only [stepI] at hs
      split at hs
      · obtain ⟨rfl, rfl, rfl, rfl⟩ := nx_inj hs
        exact k_i2d C hd k
      · exact nxn hs
    | dcmp op =>
      have hlen := hl9 rfl
      subst hlen
      simp only [stepI] at hs
      split at hs
      · obtain ⟨rfl, rfl, rfl, rfl⟩ := nx_inj hs
        exact k_dcmp C hd k
      · exact nxn hs
    | idiv =>
      have hlen := hl9 rfl
      subst hlen
      simp only [stepI] at hs
      split at hs
      · split at hs
        · next hg =>
          obtain ⟨rfl, rfl, rfl, rfl⟩ := nx_inj hs
          exact k_idiv C hd hg.1 hg.2 k
        · exact nxn hs
      · exact nxn hs
    | irem =>
      have hlen := hl9 rfl
      subst hlen
      simp only [stepI] at hs
      split at hs
      · split at hs
        · next hg =>
          obtain ⟨rfl, rfl, rfl, rfl⟩ := nx_inj hs
          exact k_irem C hd hg.1 hg.2 k
        · exact nxn hs
      · exact nxn hs
    | iand =>
      have hlen := hl9 rfl
      subst hlen
      simp only [stepI] at hs
      split at hs
      · split at hs
        · next hg =>
          obtain ⟨rfl, rfl, rfl, rfl⟩ := nx_inj hs
          exact k_iand C hd hg k
        · exact nxn hs
      · exact nxn hs
    | iushr =>
      have hlen := hl9 rfl
      subst hlen
      simp only [stepI] at hs
      split at hs
      · split at hs
        · next hg =>
          obtain ⟨rfl, rfl, rfl, rfl⟩ := nx_inj hs
          exact k_iushr C hd hg k
        · exact nxn hs
      · exact nxn hs
    | ishr =>
      have hlen := hl9 rfl
      subst hlen
      simp only [stepI] at hs
      split at hs
      · split at hs
        · next hg =>
          obtain ⟨rfl, rfl, rfl, rfl⟩ := nx_inj hs
          exact k_ishr C hd hg.1 hg.2 k
        · exact nxn hs
      · exact nxn hs
    | f2d =>
      have hlen := hl9 rfl
      subst hlen
      simp only [stepI] at hs
      split at hs
      · split at hs
        · next hg =>
          obtain ⟨rfl, rfl, rfl, rfl⟩ := nx_inj hs
          exact k_f2d C hd hg k
        · exact nxn hs
      · exact nxn hs
    | fdiv =>
      have hlen := hl9 rfl
      subst hlen
      simp only [stepI] at hs
      split at hs
      · split at hs
        · next hg =>
          obtain ⟨rfl, rfl, rfl, rfl⟩ := nx_inj hs
          exact k_fdiv C hd hg k
        · exact nxn hs
      · exact nxn hs
    | ddiv =>
      have hlen := hl9 rfl
      subst hlen
      simp only [stepI] at hs
      split at hs
      · split at hs
        · next hg =>
          obtain ⟨rfl, rfl, rfl, rfl⟩ := nx_inj hs
          exact k_ddiv C hd hg k
        · exact nxn hs
      · exact nxn hs
    | goto off =>
      have hlen := hl9 rfl
      subst hlen
      simp only [stepI] at hs
      obtain ⟨hg, rfl, rfl, rfl, rfl⟩ := jmp_inj hs
      exact k_goto C hd hg k
    | ifCond cd off =>
      have hlen := hl9 rfl
      subst hlen
      simp only [stepI] at hs
      simp only [decide_eq_true_eq] at hx
      split at hs
      · next x9 rest9 =>
        refine k_if C hd ?_ ?_ hx
        · intro hc9
          rw [if_pos hc9] at hs
          obtain ⟨hg, rfl, rfl, rfl, rfl⟩ := jmp_inj hs
          exact ⟨hx, k⟩
        · intro hc9
          rw [if_neg (by rw [hc9]; decide)] at hs
          obtain ⟨rfl, rfl, rfl, rfl⟩ := nx_inj hs
          exact k
      · exact nxn hs
    | if_icmp cd off =>
      have hlen := hl9 rfl
      subst hlen
      simp only [stepI] at hs
      simp only [decide_eq_true_eq] at hx
      split at hs
      · next x9 rest9 =>
        refine k_icmp C hd ?_ ?_ hx
        · intro hc9
          rw [if_pos hc9] at hs
          obtain ⟨hg, rfl, rfl, rfl, rfl⟩ := jmp_inj hs
          exact k
        · intro hc9
          rw [if_neg (by rw [hc9]; decide)] at hs
          obtain ⟨rfl, rfl, rfl, rfl⟩ := nx_inj hs
          exact k
      · exact nxn hs
    | tableswitch d lo hi offs =>
      simp only [stepI] at hs
      split at hs
      · split at hs
        · next hg =>
          obtain ⟨hj, rfl, rfl, rfl, rfl⟩ := jmp_inj hs
          exact k_tout C hd hg hj k
        · next hg =>
          split at hs
          · next off ho =>
            obtain ⟨hj, rfl, rfl, rfl, rfl⟩ := jmp_inj hs
            exact k_tin C hd hg ho hj k
          · exact nxn hs
      · exact nxn hs
    | lookupswitch d ps =>
      simp only [stepI] at hs
      split at hs
      · split at hs
        · next hg =>
          obtain ⟨hj, rfl, rfl, rfl, rfl⟩ := jmp_inj hs
          exact k_look C hd hg hj k
        · exact nxn hs
      · exact nxn hs
    | ireturn =>
      have hlen := hl9 rfl
      subst hlen
      simp only [stepI] at hs
      split at hs
      · split at hs
        · exact absurd hs (by simp [retv, nx])
        · exact nxn hs
      · exact nxn hs
    | freturn =>
      have hlen := hl9 rfl
      subst hlen
      simp only [stepI] at hs
      split at hs
      · split at hs
        · exact absurd hs (by simp [retv, nx])
        · exact nxn hs
      · exact nxn hs
    | dreturn =>
      have hlen := hl9 rfl
      subst hlen
      simp only [stepI] at hs
      split at hs
      · split at hs
        · exact absurd hs (by simp [retv, nx])
        · exact nxn hs
      · exact nxn hs
    | return_ =>
      have hlen := hl9 rfl
      subst hlen
      simp only [stepI] at hs
      split at hs
      · split at hs
        · exact absurd hs (by simp [retv, nx])
        · exact nxn hs
      · exact nxn hs
    | getfield i =>
      have hlen := hl9 rfl
      subst hlen
      simp only [stepI] at hs
      split at hs
      · split at hs
        · next hg =>
          split at hs
          · next h1c =>
            split at hs
            · exact nxn hs
            · next j hj =>
              obtain ⟨rfl, rfl, rfl, rfl⟩ := nx_inj hs
              refine k_getfield C U hE hx hd hg (fun _ => by rw [hj]; omega) ?_
              rw [if_pos h1c, hj]
              exact k
          · next h1c =>
            obtain ⟨rfl, rfl, rfl, rfl⟩ := nx_inj hs
            refine k_getfield C U hE hx hd hg (fun h => absurd h h1c) ?_
            rw [if_neg h1c]
            exact k
        · exact nxn hs
      · exact nxn hs
    | putfield i =>
      have hlen := hl9 rfl
      subst hlen
      simp only [stepI] at hs
      split at hs
      · split at hs
        · next hg =>
          obtain ⟨rfl, rfl, rfl, rfl⟩ := nx_inj hs
          simp only [Bool.and_eq_true] at hx
          exact k_putI C U hE hx.1 hx.2 hd hg.1 hg.2 k
        · exact nxn hs
      · split at hs
        · next hg =>
          obtain ⟨rfl, rfl, rfl, rfl⟩ := nx_inj hs
          simp only [Bool.and_eq_true] at hx
          exact k_putR C U hE hx.1 hx.2 hd hg.1 hg.2 k
        · exact nxn hs
      · exact nxn hs
    | newarray t =>
      have hlen := hl9 rfl
      subst hlen
      simp only [stepI] at hs
      split at hs
      · split at hs
        · next hg =>
          obtain ⟨rfl, rfl, rfl, rfl⟩ := nx_inj hs
          exact k_newarray C hE hB hd hg.1 hg.2.1 hg.2.2.1 hg.2.2.2 hc hs2 k
        · exact nxn hs
      · exact nxn hs
    | anewarray i =>
      have hlen := hl9 rfl
      subst hlen
      simp only [stepI] at hs
      split at hs
      · split at hs
        · next hg =>
          obtain ⟨rfl, rfl, rfl, rfl⟩ := nx_inj hs
          exact k_anewarray C hE hB hd (inT_mem hx) hg.1 hg.2.1 hg.2.2 hc hs2 k
        · exact nxn hs
      · exact nxn hs
    | multianewarray i d =>
      have hlen := hl9 rfl
      subst hlen
      simp only [stepI] at hs
      simp only [Bool.and_eq_true, decide_eq_true_eq] at hx
      obtain ⟨rfl, hx⟩ := hx
      split at hs
      · split at hs
        · next hg =>
          obtain ⟨rfl, rfl, rfl, rfl⟩ := nx_inj hs
          exact k_multi C hE hB hd (inT_mem hx) hg.1 hg.2.1 hg.2.2.1 hg.2.2.2.1 hg.2.2.2.2 hc hs2 k
        · exact nxn hs
      · exact nxn hs
    | new i =>
      have hlen := hl9 rfl
      subst hlen
      simp only [stepI] at hs
      split at hs
      · split at hs
        · exact absurd hs (by simp [thr, nx])
        · exact nxn hs
      · next h9 =>
        dsimp only at hx
        rw [if_neg h9] at hx
        split at hs
        · next hf9 =>
          obtain ⟨rfl, rfl, rfl, rfl⟩ := nx_inj hs
          split at hx
          · next R9 T9 N9 hv =>
            simp only [Bool.and_eq_true, decide_eq_true_eq] at hx
            obtain ⟨⟨⟨rfl, q1⟩, q2⟩, q3⟩ := hx
            exact k_new C U hE hB hd hv (inT_mem q1) (inT_mem q2) (inT_mem q3) hf9 hc hs2 k
          · cases hx
        · exact nxn hs
    | arraylength =>
      have hlen := hl9 rfl
      subst hlen
      simp only [stepI] at hs
      split at hs
      · split at hs
        · next hg =>
          obtain ⟨rfl, rfl, rfl, rfl⟩ := nx_inj hs
          exact k_alen C hd hg.1 hg.2 k
        · exact nxn hs
      · obtain ⟨rfl, rfl, rfl, rfl⟩ := nx_inj hs
        exact k_slen C hE rfl hd k
      · exact nxn hs
    | iaload =>
      have hlen := hl9 rfl
      subst hlen
      simp only [stepI] at hs
      split at hs
      · split at hs
        · next hg =>
          obtain ⟨rfl, rfl, rfl, rfl⟩ := nx_inj hs
          exact k_iaload C hd hg.1 hg.2.1 hg.2.2 k
        · exact nxn hs
      · split at hs
        · next hg =>
          obtain ⟨rfl, rfl, rfl, rfl⟩ := nx_inj hs
          exact k_sload C hE rfl hd hg.1 hg.2 k
        · exact nxn hs
      · exact nxn hs
    | iastore =>
      have hlen := hl9 rfl
      subst hlen
      simp only [stepI] at hs
      split at hs
      · split at hs
        · next hg =>
          obtain ⟨rfl, rfl, rfl, rfl⟩ := nx_inj hs
          exact k_iastore C hd hg.1 hg.2.1 hg.2.2 k
        · exact nxn hs
      · exact nxn hs
    | baload =>
      have hlen := hl9 rfl
      subst hlen
      simp only [stepI] at hs
      split at hs
      · split at hs
        · next hg =>
          obtain ⟨rfl, rfl, rfl, rfl⟩ := nx_inj hs
          exact k_baload C hd hg.1 hg.2.1 hg.2.2 k
        · exact nxn hs
      · exact nxn hs
    | laload =>
      have hlen := hl9 rfl
      subst hlen
      simp only [stepI] at hs
      split at hs
      · split at hs
        · next hg =>
          obtain ⟨rfl, rfl, rfl, rfl⟩ := nx_inj hs
          exact k_laload C hd hg.1 hg.2.1 hg.2.2 k
        · exact nxn hs
      · exact nxn hs
    | lastore =>
      have hlen := hl9 rfl
      subst hlen
      simp only [stepI] at hs
      split at hs
      · split at hs
        · next hg =>
          obtain ⟨rfl, rfl, rfl, rfl⟩ := nx_inj hs
          exact k_lastore C hd hg.1 hg.2.1 hg.2.2 k
        · exact nxn hs
      · exact nxn hs
    | bastore =>
      have hlen := hl9 rfl
      subst hlen
      simp only [stepI] at hs
      split at hs
      · split at hs
        · next hg =>
          obtain ⟨rfl, rfl, rfl, rfl⟩ := nx_inj hs
          exact k_bastore C hd hg.1 hg.2.1 hg.2.2.1 hg.2.2.2 k
        · exact nxn hs
      · exact nxn hs
    | aaload =>
      have hlen := hl9 rfl
      subst hlen
      simp only [stepI] at hs
      split at hs
      · split at hs
        · next hg =>
          split at hs
          · exact nxn hs
          · next j hj =>
            obtain ⟨rfl, rfl, rfl, rfl⟩ := nx_inj hs
            exact k_aaload C hd hg.1 hg.2.1 hg.2.2 hj k
        · exact nxn hs
      · exact nxn hs
    | aastore =>
      have hlen := hl9 rfl
      subst hlen
      simp only [stepI] at hs
      split at hs
      · split at hs
        · next hg =>
          obtain ⟨rfl, rfl, rfl, rfl⟩ := nx_inj hs
          exact k_aastore C hd hg.1 hg.2.1 hg.2.2.1 hg.2.2.2 k
        · exact nxn hs
      · exact nxn hs
    | invokevirtual i =>
      have hlen := hl9 rfl
      subst hlen
      simp only [stepI] at hs
      exact k_stC C hE (fun u hu => by subst hu; exact hd) hx hs hc hs2 k
    | invokespecial i =>
      have hlen := hl9 rfl
      subst hlen
      simp only [stepI] at hs
      exact k_stC C hE (fun u hu => by subst hu; exact hd) hx hs hc hs2 k
    | invokestatic i =>
      have hlen := hl9 rfl
      subst hlen
      simp only [stepI] at hs
      exact k_stC C hE (fun u hu => by subst hu; exact hd) hx hs hc hs2 k
    | _ => exact absurd hs (by simp [stepI, nx])
  · exact nxn hs
end NXT

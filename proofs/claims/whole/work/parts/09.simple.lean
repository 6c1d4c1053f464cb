/-! the rows of the instructions that touch no heap -/
section ROWS
variable {base : Nat} {sx : Nat → Nat} {dC : Nat → ClassId} {dI : Nat → Nat → Nat} {p : Program} {l : Launch} {e : Env} {R : Room} {s : State} {mi : MethodId} {args : Array Value} {below : List Frame} {meth : Method} {c : Code} {Q : State → Prop} {m n0 m0 pc : Nat} {al st : List AV} {σ : Sg}
theorem okc {v : AV} {st : List AV} (h1 : okA v) (h2 : ∀ u ∈ st, okA u) : ∀ u ∈ v :: st, okA u := fun u hu => (List.mem_cons.mp hu).elim (fun e => e ▸ h1) (h2 u)
theorem okt {v : AV} {st : List AV} (h : ∀ u ∈ v :: st, okA u) : ∀ u ∈ st, okA u := fun u hu => h u (List.mem_cons_of_mem _ hu)
theorem okh {v : AV} {st : List AV} (h : ∀ u ∈ v :: st, okA u) : okA v := h v List.mem_cons_self
theorem oks {al : List AV} {i : Nat} {w : AV} (h : ∀ v ∈ al, okA v) (hw : okA w) : ∀ v ∈ sto al i w, okA v := by
  intro v hv
  obtain ⟨j, hj⟩ := List.getElem?_of_mem hv
  by_cases e : j = i
  · subst e
    by_cases hl : j < al.length
    · rw [sto_self hl] at hj; cases hj; exact hw
    · rw [List.getElem?_eq_none (by rw [sto_len]; omega)] at hj; cases hj
  · rw [sto_ne e] at hj
    split at hj
    · cases ha : al[j]? with
      | none => rw [ha] at hj; cases hj
      | some u =>
        rw [ha] at hj
        have e2 : k2 u = v := Option.some.inj hj
        unfold k2 at e2
        split at e2
        · subst e2; exact h _ (List.mem_of_getElem? ha)
        · subst e2; exact trivial
    · exact h _ (List.mem_of_getElem? hj)
theorem oks2 {al : List AV} {i : Nat} {w : AV} (h : ∀ v ∈ al, okA v) (hw : okA w) : ∀ v ∈ sto2 al i w, okA v := by
  intro v hv
  unfold sto2 at hv
  rcases List.mem_or_eq_of_mem_set hv with h1 | h1
  · exact oks h hw v h1
  · subst h1; exact trivial
theorem inR_8 (x : Int8) : inR x.toInt := by
  have h1 := x.le_toInt
  have h2 := x.toInt_le
  have e1 : Int8.minValue.toInt = -128 := by decide
  have e2 : Int8.maxValue.toInt = 127 := by decide
  unfold inR
  omega
theorem inR_16 (x : Int16) : inR x.toInt := by
  have h1 := x.le_toInt
  have h2 := x.toInt_le
  have e1 : Int16.minValue.toInt = -32768 := by decide
  have e2 : Int16.maxValue.toInt = 32767 := by decide
  unfold inR
  omega
theorem k_iconst (C : CX p l R s mi meth c m) {n : Int} (hd : decode (am_b m) pc = .ok (.iconst n, 1)) (k : Kt base sx dC dI p l e R s mi args below meth c Q m n0 m0 (pc + 1) (al) (AI (wr n) :: st) (σ)) : Kt base sx dC dI p l e R s mi args below meth c Q m n0 m0 (pc) (al) (st) (σ) := by
  intro H locs cells slots ls hL hn ha hst hW hS h1 h2
  exact lv_iconst C.1 C.2.1 hd (ofI_wr n).symm (k H locs cells slots ls hL hn ha (okc (inR_wr n) hst) hW hS h1 h2)
theorem k_bipush (C : CX p l R s mi meth c m) {n : Int} (hd : decode (am_b m) pc = .ok (.bipush n, 2)) (k : Kt base sx dC dI p l e R s mi args below meth c Q m n0 m0 (pc + 2) (al) (AI (Int8.ofInt n).toInt :: st) (σ)) : Kt base sx dC dI p l e R s mi args below meth c Q m n0 m0 (pc) (al) (st) (σ) := by
  intro H locs cells slots ls hL hn ha hst hW hS h1 h2
  refine lv_bipush C.1 C.2.1 hd ?_ (k H locs cells slots ls hL hn ha (okc (inR_8 _) hst) hW hS h1 h2)
  show (Int8.ofInt n).toInt32 = Int32.ofInt (Int8.ofInt n).toInt
  apply Int32.toInt_inj.mp
  rw [toI (inR_8 _)]
  simp
theorem k_sipush (C : CX p l R s mi meth c m) {n : Int} (hd : decode (am_b m) pc = .ok (.sipush n, 3)) (k : Kt base sx dC dI p l e R s mi args below meth c Q m n0 m0 (pc + 3) (al) (AI (Int16.ofInt n).toInt :: st) (σ)) : Kt base sx dC dI p l e R s mi args below meth c Q m n0 m0 (pc) (al) (st) (σ) := by
  intro H locs cells slots ls hL hn ha hst hW hS h1 h2
  refine lv_sipush C.1 C.2.1 hd ?_ (k H locs cells slots ls hL hn ha (okc (inR_16 _) hst) hW hS h1 h2)
  show (Int16.ofInt n).toInt32 = Int32.ofInt (Int16.ofInt n).toInt
  apply Int32.toInt_inj.mp
  rw [toI (inR_16 _)]
  simp
theorem k_lconst (C : CX p l R s mi meth c m) {n : Fin 2} (hd : decode (am_b m) pc = .ok (.lconst n, 1)) (k : Kt base sx dC dI p l e R s mi args below meth c Q m n0 m0 (pc + 1) (al) (AL (n.val : Int) :: st) (σ)) : Kt base sx dC dI p l e R s mi args below meth c Q m n0 m0 (pc) (al) (st) (σ) := by
  intro H locs cells slots ls hL hn ha hst hW hS h1 h2
  refine lv_lconst C.1 C.2.1 hd ?_ (k H locs cells slots ls hL hn ha (okc (show inR _ by unfold inR; omega) hst) hW hS h1 h2)
  rfl
theorem k_fconst (C : CX p l R s mi meth c m) (hd : decode (am_b m) pc = .ok (.fconst 1, 1)) (k : Kt base sx dC dI p l e R s mi args below meth c Q m n0 m0 (pc + 1) (al) (AF FP.fconst1 :: st) (σ)) : Kt base sx dC dI p l e R s mi args below meth c Q m n0 m0 (pc) (al) (st) (σ) := by
  intro H locs cells slots ls hL hn ha hst hW hS h1 h2
  exact lv_fconst1 C.1 C.2.1 hd (k H locs cells slots ls hL hn ha (okc trivial hst) hW hS h1 h2)
theorem k_dconst (C : CX p l R s mi meth c m) (hd : decode (am_b m) pc = .ok (.dconst 0, 1)) (k : Kt base sx dC dI p l e R s mi args below meth c Q m n0 m0 (pc + 1) (al) (AD FP.dconst0 :: st) (σ)) : Kt base sx dC dI p l e R s mi args below meth c Q m n0 m0 (pc) (al) (st) (σ) := by
  intro H locs cells slots ls hL hn ha hst hW hS h1 h2
  exact lv_dconst0 C.1 C.2.1 hd (k H locs cells slots ls hL hn ha (okc trivial hst) hW hS h1 h2)
theorem lat {ls : Array Slot} {i : Nat} {v : AV} (h : LH base sx ls al) (hi : al[i]? = some v) (hv : v ≠ AU) : ls[i]? = some (.val (cv base sx v)) := h.2.2 i v hi hv
theorem k_iload (C : CX p l R s mi meth c m) {i : Nat} (hd : decode (am_b m) pc = .ok (.iload i, 2)) {x : Int} (hi : al[i]? = some (AI x)) (k : Kt base sx dC dI p l e R s mi args below meth c Q m n0 m0 (pc + 2) (al) (AI x :: st) (σ)) : Kt base sx dC dI p l e R s mi args below meth c Q m n0 m0 (pc) (al) (st) (σ) := by
  intro H locs cells slots ls hL hn ha hst hW hS h1 h2
  exact lv_iload C.1 C.2.1 hd (lat hL hi (by simp)) (k H locs cells slots ls hL hn ha (okc (ha _ (List.mem_of_getElem? hi)) hst) hW hS h1 h2)
theorem k_iload_n (C : CX p l R s mi meth c m) {i : Fin 4} (hd : decode (am_b m) pc = .ok (.iload_n i, 1)) {x : Int} (hi : al[i.val]? = some (AI x)) (k : Kt base sx dC dI p l e R s mi args below meth c Q m n0 m0 (pc + 1) (al) (AI x :: st) (σ)) : Kt base sx dC dI p l e R s mi args below meth c Q m n0 m0 (pc) (al) (st) (σ) := by
  intro H locs cells slots ls hL hn ha hst hW hS h1 h2
  exact lv_iload_n C.1 C.2.1 hd rfl (lat hL hi (by simp)) (k H locs cells slots ls hL hn ha (okc (ha _ (List.mem_of_getElem? hi)) hst) hW hS h1 h2)
theorem k_dload (C : CX p l R s mi meth c m) {i : Nat} (hd : decode (am_b m) pc = .ok (.dload i, 2)) {x : UInt64} (hi : al[i]? = some (AD x)) (k : Kt base sx dC dI p l e R s mi args below meth c Q m n0 m0 (pc + 2) (al) (AD x :: st) (σ)) : Kt base sx dC dI p l e R s mi args below meth c Q m n0 m0 (pc) (al) (st) (σ) := by
  intro H locs cells slots ls hL hn ha hst hW hS h1 h2
  exact lv_dload C.1 C.2.1 hd (lat hL hi (by simp)) (k H locs cells slots ls hL hn ha (okc trivial hst) hW hS h1 h2)
theorem k_aload (C : CX p l R s mi meth c m) {i : Nat} (hd : decode (am_b m) pc = .ok (.aload i, 2)) {v : AV} {q : Nat} (hi : al[i]? = some v) (hq : cv base sx v = .ref q) (hv : v ≠ AU) (ho : okA v) (k : Kt base sx dC dI p l e R s mi args below meth c Q m n0 m0 (pc + 2) (al) (v :: st) (σ)) : Kt base sx dC dI p l e R s mi args below meth c Q m n0 m0 (pc) (al) (st) (σ) := by
  intro H locs cells slots ls hL hn ha hst hW hS h1 h2
  have hl := lat hL hi hv
  rw [hq] at hl
  have h := k H locs cells slots ls hL hn ha (okc ho hst) hW hS h1 h2
  rw [List.map_cons, hq] at h
  exact lv_aload C.1 C.2.1 hd hl h
theorem k_aload_n (C : CX p l R s mi meth c m) {i : Fin 4} (hd : decode (am_b m) pc = .ok (.aload_n i, 1)) {v : AV} {q : Nat} (hi : al[i.val]? = some v) (hq : cv base sx v = .ref q) (hv : v ≠ AU) (ho : okA v) (k : Kt base sx dC dI p l e R s mi args below meth c Q m n0 m0 (pc + 1) (al) (v :: st) (σ)) : Kt base sx dC dI p l e R s mi args below meth c Q m n0 m0 (pc) (al) (st) (σ) := by
  intro H locs cells slots ls hL hn ha hst hW hS h1 h2
  have hl := lat hL hi hv
  rw [hq] at hl
  have h := k H locs cells slots ls hL hn ha (okc ho hst) hW hS h1 h2
  rw [List.map_cons, hq] at h
  exact lv_aload_n C.1 C.2.1 hd rfl hl h
theorem k_istore (C : CX p l R s mi meth c m) {i : Nat} (hd : decode (am_b m) pc = .ok (.istore i, 2)) {x : Int} (hi : i < al.length) (k : Kt base sx dC dI p l e R s mi args below meth c Q m n0 m0 (pc + 2) (sto al i (AI x)) (st) (σ)) : Kt base sx dC dI p l e R s mi args below meth c Q m n0 m0 (pc) (al) (AI x :: st) (σ) := by
  intro H locs cells slots ls hL hn ha hst hW hS h1 h2
  exact lv_istore C.1 C.2.1 hd hL.has hi rfl (fun ls' h' => k H locs cells slots ls' (LH.of1 hi h') (by rw [sto_len]; exact hn) (oks ha (okh hst)) (okt hst) hW hS h1 h2)
theorem k_istore_n (C : CX p l R s mi meth c m) {i : Fin 4} (hd : decode (am_b m) pc = .ok (.istore_n i, 1)) {x : Int} (hi : i.val < al.length) (k : Kt base sx dC dI p l e R s mi args below meth c Q m n0 m0 (pc + 1) (sto al i.val (AI x)) (st) (σ)) : Kt base sx dC dI p l e R s mi args below meth c Q m n0 m0 (pc) (al) (AI x :: st) (σ) := by
  intro H locs cells slots ls hL hn ha hst hW hS h1 h2
  exact lv_istore_n C.1 C.2.1 hd rfl hL.has hi rfl (fun ls' h' => k H locs cells slots ls' (LH.of1 hi h') (by rw [sto_len]; exact hn) (oks ha (okh hst)) (okt hst) hW hS h1 h2)
theorem k_astore (C : CX p l R s mi meth c m) {i : Nat} (hd : decode (am_b m) pc = .ok (.astore i, 2)) {x : Nat} (hi : i < al.length) (k : Kt base sx dC dI p l e R s mi args below meth c Q m n0 m0 (pc + 2) (sto al i (AR (x + 1))) (st) (σ)) : Kt base sx dC dI p l e R s mi args below meth c Q m n0 m0 (pc) (al) (AR (x + 1) :: st) (σ) := by
  intro H locs cells slots ls hL hn ha hst hW hS h1 h2
  exact lv_astore C.1 C.2.1 hd hL.has hi rfl (fun ls' h' => k H locs cells slots ls' (LH.of1 (w := AR (x + 1)) hi h') (by rw [sto_len]; exact hn) (oks ha trivial) (okt hst) hW hS h1 h2)
theorem k_astore_n (C : CX p l R s mi meth c m) {i : Fin 4} (hd : decode (am_b m) pc = .ok (.astore_n i, 1)) {x : Nat} (hi : i.val < al.length) (k : Kt base sx dC dI p l e R s mi args below meth c Q m n0 m0 (pc + 1) (sto al i.val (AR (x + 1))) (st) (σ)) : Kt base sx dC dI p l e R s mi args below meth c Q m n0 m0 (pc) (al) (AR (x + 1) :: st) (σ) := by
  intro H locs cells slots ls hL hn ha hst hW hS h1 h2
  exact lv_astore_n C.1 C.2.1 hd rfl hL.has hi rfl (fun ls' h' => k H locs cells slots ls' (LH.of1 (w := AR (x + 1)) hi h') (by rw [sto_len]; exact hn) (oks ha trivial) (okt hst) hW hS h1 h2)
theorem k_dstore (C : CX p l R s mi meth c m) {i : Nat} (hd : decode (am_b m) pc = .ok (.dstore i, 2)) {x : UInt64} (hi : i + 1 < al.length) (k : Kt base sx dC dI p l e R s mi args below meth c Q m n0 m0 (pc + 2) (sto2 al i (AD x)) (st) (σ)) : Kt base sx dC dI p l e R s mi args below meth c Q m n0 m0 (pc) (al) (AD x :: st) (σ) := by
  intro H locs cells slots ls hL hn ha hst hW hS h1 h2
  exact lv_dstore C.1 C.2.1 hd hL.has hi rfl (fun ls' h' => k H locs cells slots ls' (LH.of2 (w := AD x) hi h') (by simp [sto2, sto_len]; exact hn) (oks2 ha trivial) (okt hst) hW hS h1 h2)
theorem k_iinc (C : CX p l R s mi meth c m) {i : Nat} {d : Int} (hd : decode (am_b m) pc = .ok (.iinc i d, 3)) {x : Int} (hi : al[i]? = some (AI x)) (k : Kt base sx dC dI p l e R s mi args below meth c Q m n0 m0 (pc + 3) (sto al i (AI (wr (x + d)))) (st) (σ)) : Kt base sx dC dI p l e R s mi args below meth c Q m n0 m0 (pc) (al) (st) (σ) := by
  intro H locs cells slots ls hL hn ha hst hW hS h1 h2
  have hm : (i, cv base sx (AI x)) ∈ asc base sx al := mem_asc.mpr ⟨_, hi, by simp, rfl⟩
  obtain ⟨j, hj⟩ := List.getElem?_of_mem hm
  have hlt : i < al.length := (List.getElem?_eq_some_iff.mp hi).1
  exact lv_iinc (k := j) C.1 C.2.1 hd hL.has hj (ofI_add x d).symm hlt rfl (fun ls' h' => k H locs cells slots ls' (LH.of1 (w := AI (wr (x + d))) hlt h') (by rw [sto_len]; exact hn) (oks ha (inR_wr _)) hst hW hS h1 h2)
theorem k_dup (C : CX p l R s mi meth c m) (hd : decode (am_b m) pc = .ok (.dup, 1)) {v : AV} (hv : cat1 v = true) (k : Kt base sx dC dI p l e R s mi args below meth c Q m n0 m0 (pc + 1) (al) (v :: v :: st) (σ)) : Kt base sx dC dI p l e R s mi args below meth c Q m n0 m0 (pc) (al) (v :: st) (σ) := by
  intro H locs cells slots ls hL hn ha hst hW hS h1 h2
  exact lv_dup C.1 C.2.1 hd (by rw [cat_le, acat, if_pos hv]) (k H locs cells slots ls hL hn ha (okc (okh hst) hst) hW hS h1 h2)
theorem k_dup2 (C : CX p l R s mi meth c m) (hd : decode (am_b m) pc = .ok (.dup2, 1)) {v w : AV} (hv : cat1 v = true) (hw : cat1 w = true) (k : Kt base sx dC dI p l e R s mi args below meth c Q m n0 m0 (pc + 1) (al) (v :: w :: v :: w :: st) (σ)) : Kt base sx dC dI p l e R s mi args below meth c Q m n0 m0 (pc) (al) (v :: w :: st) (σ) := by
  intro H locs cells slots ls hL hn ha hst hW hS h1 h2
  exact lv_dup2_11 C.1 C.2.1 hd (by rw [cat_le, acat, if_pos hv]) (by rw [cat_le, acat, if_pos hw]) (k H locs cells slots ls hL hn ha (okc (okh hst) (okc (okh (okt hst)) hst)) hW hS h1 h2)
theorem k_pop (C : CX p l R s mi meth c m) (hd : decode (am_b m) pc = .ok (.pop, 1)) {v : AV} (hv : cat1 v = true) (k : Kt base sx dC dI p l e R s mi args below meth c Q m n0 m0 (pc + 1) (al) (st) (σ)) : Kt base sx dC dI p l e R s mi args below meth c Q m n0 m0 (pc) (al) (v :: st) (σ) := by
  intro H locs cells slots ls hL hn ha hst hW hS h1 h2
  exact lv_pop C.1 C.2.1 hd (by rw [cat_le, acat, if_pos hv]) (k H locs cells slots ls hL hn ha (okt hst) hW hS h1 h2)
theorem k_iadd (C : CX p l R s mi meth c m) (hd : decode (am_b m) pc = .ok (.iadd, 1)) {x y : Int} (k : Kt base sx dC dI p l e R s mi args below meth c Q m n0 m0 (pc + 1) (al) (AI (wr (x + y)) :: st) (σ)) : Kt base sx dC dI p l e R s mi args below meth c Q m n0 m0 (pc) (al) (AI y :: AI x :: st) (σ) := by
  intro H locs cells slots ls hL hn ha hst hW hS h1 h2
  refine lv_iadd C.1 C.2.1 hd ?_
  rw [← ofI_add]
  exact k H locs cells slots ls hL hn ha (okc (inR_wr _) (okt (okt hst))) hW hS h1 h2
theorem k_isub (C : CX p l R s mi meth c m) (hd : decode (am_b m) pc = .ok (.isub, 1)) {x y : Int} (k : Kt base sx dC dI p l e R s mi args below meth c Q m n0 m0 (pc + 1) (al) (AI (wr (x - y)) :: st) (σ)) : Kt base sx dC dI p l e R s mi args below meth c Q m n0 m0 (pc) (al) (AI y :: AI x :: st) (σ) := by
  intro H locs cells slots ls hL hn ha hst hW hS h1 h2
  refine lv_isub C.1 C.2.1 hd ?_
  rw [← ofI_sub]
  exact k H locs cells slots ls hL hn ha (okc (inR_wr _) (okt (okt hst))) hW hS h1 h2
theorem k_imul (C : CX p l R s mi meth c m) (hd : decode (am_b m) pc = .ok (.imul, 1)) {x y : Int} (k : Kt base sx dC dI p l e R s mi args below meth c Q m n0 m0 (pc + 1) (al) (AI (wr (x * y)) :: st) (σ)) : Kt base sx dC dI p l e R s mi args below meth c Q m n0 m0 (pc) (al) (AI y :: AI x :: st) (σ) := by
  intro H locs cells slots ls hL hn ha hst hW hS h1 h2
  refine lv_imul C.1 C.2.1 hd ?_
  rw [← ofI_mul]
  exact k H locs cells slots ls hL hn ha (okc (inR_wr _) (okt (okt hst))) hW hS h1 h2
theorem inR_div {x y : Int} (hx : inR x) (h0 : 0 ≤ x) (h1 : 0 < y) : inR (x / y) := by
  unfold inR at *
  have h2 := Int.ediv_le_self y h0
  have h3 := Int.ediv_nonneg h0 (Int.le_of_lt h1)
  omega
theorem inR_mod {x y : Int} (hy : inR y) (h1 : 0 < y) : inR (x % y) := by
  unfold inR at *
  have h2 := Int.emod_lt_of_pos x h1
  have h3 := Int.emod_nonneg x (by omega : y ≠ 0)
  omega
theorem ne_ofI {y : Int} (hy : inR y) (h : 0 < y) : ¬ Int32.ofInt y = 0 := fun h9 => by
  have := (ofI_eq hy inR_0).mp h9
  omega
theorem k_idiv (C : CX p l R s mi meth c m) (hd : decode (am_b m) pc = .ok (.idiv, 1)) {x y : Int} (h0 : 0 ≤ x) (hy : 0 < y) (k : Kt base sx dC dI p l e R s mi args below meth c Q m n0 m0 (pc + 1) (al) (AI (x / y) :: st) (σ)) : Kt base sx dC dI p l e R s mi args below meth c Q m n0 m0 (pc) (al) (AI y :: AI x :: st) (σ) := by
  intro H locs cells slots ls hL hn ha hst hW hS h1 h2
  refine lv_idiv C.1 C.2.1 hd (ne_ofI (okh hst) hy) ?_
  rw [ofI_div (okh (okt hst)) (okh hst) h0 hy]
  exact k H locs cells slots ls hL hn ha (okc (inR_div (okh (okt hst)) h0 hy) (okt (okt hst))) hW hS h1 h2
theorem k_irem (C : CX p l R s mi meth c m) (hd : decode (am_b m) pc = .ok (.irem, 1)) {x y : Int} (h0 : 0 ≤ x) (hy : 0 < y) (k : Kt base sx dC dI p l e R s mi args below meth c Q m n0 m0 (pc + 1) (al) (AI (x % y) :: st) (σ)) : Kt base sx dC dI p l e R s mi args below meth c Q m n0 m0 (pc) (al) (AI y :: AI x :: st) (σ) := by
  intro H locs cells slots ls hL hn ha hst hW hS h1 h2
  refine lv_irem C.1 C.2.1 hd (ne_ofI (okh hst) hy) ?_
  rw [ofI_rem (okh (okt hst)) (okh hst) h0 hy]
  exact k H locs cells slots ls hL hn ha (okc (inR_mod (okh hst) hy) (okt (okt hst))) hW hS h1 h2
theorem k_iand (C : CX p l R s mi meth c m) (hd : decode (am_b m) pc = .ok (.iand, 1)) {x y : Int} (hy : y = 63 ∨ y = 255) (k : Kt base sx dC dI p l e R s mi args below meth c Q m n0 m0 (pc + 1) (al) (AI (x % (y + 1)) :: st) (σ)) : Kt base sx dC dI p l e R s mi args below meth c Q m n0 m0 (pc) (al) (AI y :: AI x :: st) (σ) := by
  intro H locs cells slots ls hL hn ha hst hW hS h1 h2
  refine lv_iand C.1 C.2.1 hd ?_
  rw [ofI_and (okh (okt hst)) hy]
  exact k H locs cells slots ls hL hn ha (okc (show inR (x % (y + 1)) by unfold inR; rcases hy with rfl | rfl <;> omega) (okt (okt hst))) hW hS h1 h2
theorem k_iushr (C : CX p l R s mi meth c m) (hd : decode (am_b m) pc = .ok (.iushr, 1)) {x y : Int} (hy : y = 8 ∨ y = 16 ∨ y = 24) (k : Kt base sx dC dI p l e R s mi args below meth c Q m n0 m0 (pc + 1) (al) (AI ((x % 4294967296) / 2 ^ y.toNat) :: st) (σ)) : Kt base sx dC dI p l e R s mi args below meth c Q m n0 m0 (pc) (al) (AI y :: AI x :: st) (σ) := by
  intro H locs cells slots ls hL hn ha hst hW hS h1 h2
  refine lv_iushr C.1 C.2.1 hd (ofI_ushr (okh (okt hst)) hy) (k H locs cells slots ls hL hn ha (okc (show inR _ from ?_) (okt (okt hst))) hW hS h1 h2)
  unfold inR
  rcases hy with rfl | rfl | rfl
  · show -2147483648 ≤ (x % 4294967296) / 256 ∧ (x % 4294967296) / 256 ≤ 2147483647
    omega
  · show -2147483648 ≤ (x % 4294967296) / 65536 ∧ (x % 4294967296) / 65536 ≤ 2147483647
    omega
  · show -2147483648 ≤ (x % 4294967296) / 16777216 ∧ (x % 4294967296) / 16777216 ≤ 2147483647
    omega
theorem inR_shr {x : Int} {k : Nat} (hx : inR x) : inR (x / 2 ^ k) := by
  have hp : (1 : Int) ≤ 2 ^ k := by
    have : 0 < (2 : Int) ^ k := Int.pow_pos (by omega)
    omega
  unfold inR at hx ⊢
  constructor
  · rw [Int.le_ediv_iff_mul_le (by omega)]
    have h9 : (2147483648 : Int) * 1 ≤ 2147483648 * 2 ^ k := Int.mul_le_mul_of_nonneg_left hp (by omega)
    omega
  · by_cases hx0 : 0 ≤ x
    · have := Int.ediv_le_self (2 ^ k) hx0
      omega
    · have : x / 2 ^ k < 0 := Int.ediv_neg_of_neg_of_pos (by omega) (by omega)
      omega
theorem k_ishr (C : CX p l R s mi meth c m) (hd : decode (am_b m) pc = .ok (.ishr, 1)) {x y : Int} (h0 : 0 ≤ y) (hy : y ≤ 31) (k : Kt base sx dC dI p l e R s mi args below meth c Q m n0 m0 (pc + 1) (al) (AI (x / 2 ^ y.toNat) :: st) (σ)) : Kt base sx dC dI p l e R s mi args below meth c Q m n0 m0 (pc) (al) (AI y :: AI x :: st) (σ) := by
  intro H locs cells slots ls hL hn ha hst hW hS h1 h2
  refine lv_ishr C.1 C.2.1 hd ?_
  rw [ofI_shr (okh (okt hst)) h0 hy]
  exact k H locs cells slots ls hL hn ha (okc (inR_shr (okh (okt hst))) (okt (okt hst))) hW hS h1 h2
theorem k_i2l (C : CX p l R s mi meth c m) (hd : decode (am_b m) pc = .ok (.i2l, 1)) {x : Int} (k : Kt base sx dC dI p l e R s mi args below meth c Q m n0 m0 (pc + 1) (al) (AL x :: st) (σ)) : Kt base sx dC dI p l e R s mi args below meth c Q m n0 m0 (pc) (al) (AI x :: st) (σ) := by
  intro H locs cells slots ls hL hn ha hst hW hS h1 h2
  exact lv_i2l C.1 C.2.1 hd (ofI_i2l (okh hst)) (k H locs cells slots ls hL hn ha (okc (show inR x from okh hst) (okt hst)) hW hS h1 h2)
theorem inR_cmp (x y : Int) : inR (if x < y then -1 else if x = y then 0 else 1) := by
  unfold inR
  split
  · omega
  · split <;> omega
theorem k_lcmp (C : CX p l R s mi meth c m) (hd : decode (am_b m) pc = .ok (.lcmp, 1)) {x y : Int} (k : Kt base sx dC dI p l e R s mi args below meth c Q m n0 m0 (pc + 1) (al) (AI (if x < y then -1 else if x = y then 0 else 1) :: st) (σ)) : Kt base sx dC dI p l e R s mi args below meth c Q m n0 m0 (pc) (al) (AL y :: AL x :: st) (σ) := by
  intro H locs cells slots ls hL hn ha hst hW hS h1 h2
  refine W.lcmp C.1 C.2.1 hd ?_
  rw [ofI_lcmp (show inR x from okh (okt hst)) (show inR y from okh hst)]
  exact k H locs cells slots ls hL hn ha (okc (inR_cmp x y) (okt (okt hst))) hW hS h1 h2
theorem k_i2f (C : CX p l R s mi meth c m) (hd : decode (am_b m) pc = .ok (.i2f, 1)) {x : Int} (k : Kt base sx dC dI p l e R s mi args below meth c Q m n0 m0 (pc + 1) (al) (AF (FP.i2f (Int32.ofInt x)) :: st) (σ)) : Kt base sx dC dI p l e R s mi args below meth c Q m n0 m0 (pc) (al) (AI x :: st) (σ) := by
  intro H locs cells slots ls hL hn ha hst hW hS h1 h2
  exact lv_i2f C.1 C.2.1 hd (k H locs cells slots ls hL hn ha (okc trivial (okt hst)) hW hS h1 h2)
theorem k_i2d (C : CX p l R s mi meth c m) (hd : decode (am_b m) pc = .ok (.i2d, 1)) {x : Int} (k : Kt base sx dC dI p l e R s mi args below meth c Q m n0 m0 (pc + 1) (al) (AD (FP.i2d (Int32.ofInt x)) :: st) (σ)) : Kt base sx dC dI p l e R s mi args below meth c Q m n0 m0 (pc) (al) (AI x :: st) (σ) := by
  intro H locs cells slots ls hL hn ha hst hW hS h1 h2
  exact lv_i2d C.1 C.2.1 hd (k H locs cells slots ls hL hn ha (okc trivial (okt hst)) hW hS h1 h2)
theorem k_f2d (C : CX p l R s mi meth c m) (hd : decode (am_b m) pc = .ok (.f2d, 1)) {x : UInt32} (hx : vf_n64 (FP.f2d x)) (k : Kt base sx dC dI p l e R s mi args below meth c Q m n0 m0 (pc + 1) (al) (AD (FP.f2d x) :: st) (σ)) : Kt base sx dC dI p l e R s mi args below meth c Q m n0 m0 (pc) (al) (AF x :: st) (σ) := by
  intro H locs cells slots ls hL hn ha hst hW hS h1 h2
  exact lv_f2d C.1 C.2.1 hd hx (k H locs cells slots ls hL hn ha (okc trivial (okt hst)) hW hS h1 h2)
theorem k_fdiv (C : CX p l R s mi meth c m) (hd : decode (am_b m) pc = .ok (.fdiv, 1)) {x y : UInt32} (hx : vf_n32 (FP.fdiv x y)) (k : Kt base sx dC dI p l e R s mi args below meth c Q m n0 m0 (pc + 1) (al) (AF (FP.fdiv x y) :: st) (σ)) : Kt base sx dC dI p l e R s mi args below meth c Q m n0 m0 (pc) (al) (AF y :: AF x :: st) (σ) := by
  intro H locs cells slots ls hL hn ha hst hW hS h1 h2
  exact lv_fdiv C.1 C.2.1 hd hx (k H locs cells slots ls hL hn ha (okc trivial (okt (okt hst))) hW hS h1 h2)
theorem k_ddiv (C : CX p l R s mi meth c m) (hd : decode (am_b m) pc = .ok (.ddiv, 1)) {x y : UInt64} (hx : vf_n64 (FP.ddiv x y)) (k : Kt base sx dC dI p l e R s mi args below meth c Q m n0 m0 (pc + 1) (al) (AD (FP.ddiv x y) :: st) (σ)) : Kt base sx dC dI p l e R s mi args below meth c Q m n0 m0 (pc) (al) (AD y :: AD x :: st) (σ) := by
  intro H locs cells slots ls hL hn ha hst hW hS h1 h2
  exact lv_ddiv C.1 C.2.1 hd hx (k H locs cells slots ls hL hn ha (okc trivial (okt (okt hst))) hW hS h1 h2)
theorem inR_toInt (x : Int32) : inR x.toInt := by
  have h1 := x.le_toInt
  have h2 := x.toInt_lt
  unfold inR
  omega
theorem k_dcmp (C : CX p l R s mi meth c m) {op : CmpOp} (hd : decode (am_b m) pc = .ok (.dcmp op, 1)) {x y : UInt64} (k : Kt base sx dC dI p l e R s mi args below meth c Q m n0 m0 (pc + 1) (al) (AI (Op.cmpValue (FP.dcmp x y) op).toInt :: st) (σ)) : Kt base sx dC dI p l e R s mi args below meth c Q m n0 m0 (pc) (al) (AD y :: AD x :: st) (σ) := by
  intro H locs cells slots ls hL hn ha hst hW hS h1 h2
  refine lv_dcmp C.1 C.2.1 hd ?_
  have h := k H locs cells slots ls hL hn ha (okc (inR_toInt _) (okt (okt hst))) hW hS h1 h2
  rw [← ofI_toInt (Op.cmpValue (FP.dcmp x y) op)]
  exact h
theorem k_goto (C : CX p l R s mi meth c m) {off : Int} (hd : decode (am_b m) pc = .ok (.goto off, 3)) (ht : 0 ≤ (pc : Int) + off) (k : Kt base sx dC dI p l e R s mi args below meth c Q m n0 m0 (((pc : Int) + off).toNat) (al) (st) (σ)) : Kt base sx dC dI p l e R s mi args below meth c Q m n0 m0 (pc) (al) (st) (σ) := by
  intro H locs cells slots ls hL hn ha hst hW hS h1 h2
  exact lv_goto C.1 C.2.1 hd (by omega) (k H locs cells slots ls hL hn ha (hst) hW hS h1 h2)
theorem k_if (C : CX p l R s mi meth c m) {cd : ClassFile.Cond} {off : Int} (hd : decode (am_b m) pc = .ok (.ifCond cd off, 3)) {x : Int} (kt : icond cd x 0 = true → 0 ≤ (pc : Int) + off ∧ Kt base sx dC dI p l e R s mi args below meth c Q m n0 m0 (((pc : Int) + off).toNat) (al) (st) (σ)) (kf : icond cd x 0 = false → Kt base sx dC dI p l e R s mi args below meth c Q m n0 m0 (pc + 3) (al) (st) (σ)) (ht : 0 ≤ (pc : Int) + off) : Kt base sx dC dI p l e R s mi args below meth c Q m n0 m0 (pc) (al) (AI x :: st) (σ) := by
  intro H locs cells slots ls hL hn ha hst hW hS h1 h2
  have hx : inR x := okh hst
  have h3 : ((pc : Int) + off) = ((((pc : Int) + off).toNat : Nat) : Int) := by omega
  cases cd with
  | eq => exact lv_if_eq C.1 C.2.1 hd h3 (fun q => (kt (by simpa [icond] using (ofI_eq hx inR_0).mp q)).2 H locs cells slots ls hL hn ha (okt hst) hW hS h1 h2) (fun q => kf (by simpa [icond] using fun h => q ((ofI_eq hx inR_0).mpr h)) H locs cells slots ls hL hn ha (okt hst) hW hS h1 h2)
  | ne => exact lv_if_ne C.1 C.2.1 hd h3 (fun q => (kt (by simpa [icond] using fun h => q ((ofI_eq hx inR_0).mpr h))).2 H locs cells slots ls hL hn ha (okt hst) hW hS h1 h2) (fun q => kf (by
      have : Int32.ofInt x = Int32.ofInt 0 := q
      simpa [icond] using (ofI_eq hx inR_0).mp this) H locs cells slots ls hL hn ha (okt hst) hW hS h1 h2)
  | lt => exact lv_if_lt C.1 C.2.1 hd h3 (fun q => (kt (by simpa [icond] using (ofI_lt hx inR_0).mp q)).2 H locs cells slots ls hL hn ha (okt hst) hW hS h1 h2) (fun q => kf (by simpa [icond] using fun h => q ((ofI_lt hx inR_0).mpr h)) H locs cells slots ls hL hn ha (okt hst) hW hS h1 h2)
  | ge => exact lv_if_ge C.1 C.2.1 hd h3 (fun q => (kt (by simpa [icond] using (ofI_le inR_0 hx).mp q)).2 H locs cells slots ls hL hn ha (okt hst) hW hS h1 h2) (fun q => kf (by simpa [icond] using fun h => q ((ofI_le inR_0 hx).mpr h)) H locs cells slots ls hL hn ha (okt hst) hW hS h1 h2)
  | gt => exact lv_if_gt C.1 C.2.1 hd h3 (fun q => (kt (by simpa [icond] using (ofI_lt inR_0 hx).mp q)).2 H locs cells slots ls hL hn ha (okt hst) hW hS h1 h2) (fun q => kf (by simpa [icond] using fun h => q ((ofI_lt inR_0 hx).mpr h)) H locs cells slots ls hL hn ha (okt hst) hW hS h1 h2)
  | le => exact lv_if_le C.1 C.2.1 hd h3 (fun q => (kt (by simpa [icond] using (ofI_le hx inR_0).mp q)).2 H locs cells slots ls hL hn ha (okt hst) hW hS h1 h2) (fun q => kf (by simpa [icond] using fun h => q ((ofI_le hx inR_0).mpr h)) H locs cells slots ls hL hn ha (okt hst) hW hS h1 h2)
end ROWS

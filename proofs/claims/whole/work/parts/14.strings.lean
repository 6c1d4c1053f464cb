/-! STRING CONSTANTS: length() and charAt(i) of the library, by contract -/
section STR
variable {base : Nat} {sx : Nat → Nat}
def QP (r : Option Value) : Array Value → State → Outcome → State → Prop := fun _ st oc t => oc = .returned r ∧ t.heap = st.heap
def XP (base : Nat) (sx : Nat → Nat) (as : List Value) : Array Value → State → Prop := fun v U => v = as.toArray ∧ ∃ σ, Ex base sx σ U U.heap
theorem XP.blind {as : List Value} : FrameBlind (XP base sx as) := fun a U g mk q => by
  obtain ⟨h1, σ, h2⟩ := q
  exact ⟨h1, σ, Ex.go (s := U) (U := U.calling g mk a) (State.WarmedH.refl U) (fun _ _ _ => rfl) rfl h2⟩
section
variable {p : Program} {l : Launch} {e : Env} {R : Room} {s : State} {mi : MethodId} {args : Array Value} {below : List Frame} {meth : Method} {c : Code} {H : Heap} {locs : List Loc} {cells slots : Nat} {Q : State → Prop}
theorem pure_call {pc : Nat} {ls : Array Slot} {st0 rest : List Value} {a : Array Value} {r : Option Value} (hr : va_Run p l e R s mi args below meth c H locs cells slots 0 0 (F0 mi pc ls st0) rest (QP r a) (fun _ => False)) (kk : W p l e R s mi args below meth c H locs cells slots Q (F0 mi (pc + 3) ls (r.toList ++ rest))) : W p l e R s mi args below meth c H locs cells slots Q (F0 mi pc ls st0) := by
  intro T hT X
  obtain ⟨v, st₀, t, T', L, h0, X', hL, e1, e2, ⟨hv, hh⟩, st⟩ := hr T hT X
  cases hv
  cases L with
  | nil =>
    rw [List.append_nil] at X'
    obtain ⟨t2, a1, b1⟩ := kk T' (by rw [e1, hh, h0]) X'
    exact ⟨t2, st t2 a1, b1⟩
  | cons x L => exact absurd (hL x List.mem_cons_self) id
theorem mkCB (hK : ∀ w ∈ lw_tbl, okW w = true → w.before #[] s = true) {y : MethodName} {bytes : ByteArray} {maxL n index : Nat} {ret : Option FieldType} {rm : Room} {own : String} (h1 : Cond.code y bytes maxL ret ∈ lw_tbl ∧ okW (Cond.code y bytes maxL ret) = true) (h2 : Cond.initialized y.cls ∈ lw_tbl ∧ okW (Cond.initialized y.cls) = true) (h3 : Cond.methodLink own index y ∈ lw_tbl ∧ okW (Cond.methodLink own index y) = true)
    (hd : y.cls ≠ "java/lang/invoke/MethodHandle" ∧ y.cls ≠ "java/lang/invoke/VarHandle" ∧ (parseMethodDescriptor y.desc).map (fun d => d.parameters.length) = some n) (hR : rm.frames + 1 ≤ R.frames ∧ 8 + (maxL + 11) + rm.locals ≤ R.locals) : CallB R s args own index y bytes maxL ret [Cond.code y bytes maxL ret] rm rm.cells rm.slots n := by
  refine ⟨rfl, rfl, hR.1, hR.2, fun w hw a' U hW => ?_, List.mem_cons_self, okW_use h1.2 (hK _ h1.1 h1.2), okW_use h2.2 (hK _ h2.1 h2.2), ⟨hd.1, hd.2.1⟩, fun sig h => ?_, okW_use h3.2 (hK _ h3.1 h3.2)⟩
  · rw [List.mem_singleton.mp hw]
    exact okW_use h1.2 (okW_warm hW h1.2 (hK _ h1.1 h1.2))
  · have h9 := hd.2.2
    rw [h] at h9
    exact (Option.some.inj h9).symm
theorem kw (hK : ∀ w ∈ lw_tbl, okW w = true → w.before #[] s = true) {w : Jvm.Cond} (i : Nat) (h : inT i w = true) : w.before args s = true := okW_use (inT_mem h).2 (hK _ (inT_mem h).1 (inT_mem h).2)
end
def rmS (f lo : Nat) : Room := { frames := f, cells := 0, slots := 0, locals := lo }
set_option maxRecDepth 100000 in
/-- coder(): 0 -/
theorem c_coder (l : Launch) (k : Nat) (hk : k < am_strs.length) : Met l yJ0_coder_7d493 [Cond.code yJ0_coder_7d493 cJ0_coder_7d493 1 (some .byte)] (rmS 0 0) (XP base sx [.ref (sx (k + 1))]) (QP (some (.int 0))) 0 0 (fun _ => False) := by
  refine Met.ofW (cc := cJ0_coder_7d493) (maxL := 1) (ret := some .byte) (by decide) rfl ?_
  intro p e s m args below meth c s₁ B hml hv
  obtain ⟨rfl, σ, hE⟩ := hv
  have hx := B.exec
  have hb := B.bytes
  have hr := B.returns
  have hown : s.vm.findClass RJ0 = some m.cls := findClass_of_methodNamed B.named
  have hlocks := B.notSynchronized
  obtain ⟨hK, -, -, -, hstr, -, -, -, -, hcs, -⟩ := hE
  obtain ⟨q, ad, -, -, -, hco, -, -⟩ := hstr k hk
  have hS : va_S (fun q => base ≤ q) s.heap s.heap [] := va_S.rf
  have hl := lv_entry ([.ref (sx (k + 1))]) (n := 1) (Nat.le_of_ble_eq_true rfl)
  rw [lg_entry_eq]
  generalize (lg_sl ([.ref (sx (k + 1))]) ++ List.replicate (1 - (lg_sl ([.ref (sx (k + 1))])).length) Slot.unset).toArray = ls at hl ⊢
  have hl : lv_has ls 1 [(0, .ref (sx (k + 1)))] := hl
  have d0 : decode cJ0_coder_7d493 0 = .ok (.getstatic 38, 3) := by decide +kernel
  have d3 : decode cJ0_coder_7d493 3 = .ok (.ifCond .eq 10, 3) := by decide +kernel
  have d6 : decode cJ0_coder_7d493 6 = .ok (.aload_n 0, 1) := by decide +kernel
  have d7 : decode cJ0_coder_7d493 7 = .ok (.getfield 15, 3) := by decide +kernel
  have d10 : decode cJ0_coder_7d493 10 = .ok (.goto 4, 3) := by decide +kernel
  have d14 : decode cJ0_coder_7d493 14 = .ok (.ireturn, 1) := by decide +kernel
  refine va_gets hx hb hcs hS hown (kw hK 504 (w := .fieldLink RJ0 38 "java/lang/String" "COMPACT_STRINGS" "Z") (by decide +kernel)) (fun _ h => h) d0 ?_
  refine lv_if_eq (tgt := 13) hx hb d3 (by decide) (fun h => absurd h (by decide)) (fun _ => ?_)
  refine lv_aload_n hx hb d6 rfl (lv_at hl 0 rfl) ?_
  refine vk_getf hx hb hco hS hown (kw hK 2058 (w := .fieldLink RJ0 15 "java/lang/String" "coder" "B") (by decide +kernel)) (fun _ h => h) d7 ?_
  refine lv_goto (tgt := 14) hx hb d10 (by decide) ?_
  exact W.zret hx hb hr rfl (fun t ht hW => ⟨rfl, ht⟩) (fun q h => nomatch h) d14
set_option maxRecDepth 100000 in
/-- isLatin1(): true -/
theorem c_isLatin1 (l : Launch) (k : Nat) (hk : k < am_strs.length) : Met l yJ0_isLatin1_aae02 [Cond.code yJ0_isLatin1_aae02 cJ0_isLatin1_aae02 1 (some .boolean)] (rmS 0 0) (XP base sx [.ref (sx (k + 1))]) (QP (some (.int 1))) 0 0 (fun _ => False) := by
  refine Met.ofW (cc := cJ0_isLatin1_aae02) (maxL := 1) (ret := some .boolean) (by decide) rfl ?_
  intro p e s m args below meth c s₁ B hml hv
  obtain ⟨rfl, σ, hE⟩ := hv
  have hx := B.exec
  have hb := B.bytes
  have hr := B.returns
  have hown : s.vm.findClass RJ0 = some m.cls := findClass_of_methodNamed B.named
  have hlocks := B.notSynchronized
  obtain ⟨hK, -, -, -, hstr, -, -, -, -, hcs, -⟩ := hE
  obtain ⟨q, ad, -, -, -, hco, -, -⟩ := hstr k hk
  have hS : va_S (fun q => base ≤ q) s.heap s.heap [] := va_S.rf
  have hl := lv_entry ([.ref (sx (k + 1))]) (n := 1) (Nat.le_of_ble_eq_true rfl)
  rw [lg_entry_eq]
  generalize (lg_sl ([.ref (sx (k + 1))]) ++ List.replicate (1 - (lg_sl ([.ref (sx (k + 1))])).length) Slot.unset).toArray = ls at hl ⊢
  have hl : lv_has ls 1 [(0, .ref (sx (k + 1)))] := hl
  have d0 : decode cJ0_isLatin1_aae02 0 = .ok (.getstatic 38, 3) := by decide +kernel
  have d3 : decode cJ0_isLatin1_aae02 3 = .ok (.ifCond .eq 14, 3) := by decide +kernel
  have d6 : decode cJ0_isLatin1_aae02 6 = .ok (.aload_n 0, 1) := by decide +kernel
  have d7 : decode cJ0_isLatin1_aae02 7 = .ok (.getfield 15, 3) := by decide +kernel
  have d10 : decode cJ0_isLatin1_aae02 10 = .ok (.ifCond .ne 7, 3) := by decide +kernel
  have d13 : decode cJ0_isLatin1_aae02 13 = .ok (.iconst 1, 1) := by decide +kernel
  have d14 : decode cJ0_isLatin1_aae02 14 = .ok (.goto 4, 3) := by decide +kernel
  have d18 : decode cJ0_isLatin1_aae02 18 = .ok (.ireturn, 1) := by decide +kernel
  refine va_gets hx hb hcs hS hown (kw hK 504 (w := .fieldLink RJ0 38 "java/lang/String" "COMPACT_STRINGS" "Z") (by decide +kernel)) (fun _ h => h) d0 ?_
  refine lv_if_eq (tgt := 17) hx hb d3 (by decide) (fun h => absurd h (by decide)) (fun _ => ?_)
  refine lv_aload_n hx hb d6 rfl (lv_at hl 0 rfl) ?_
  refine vk_getf hx hb hco hS hown (kw hK 2058 (w := .fieldLink RJ0 15 "java/lang/String" "coder" "B") (by decide +kernel)) (fun _ h => h) d7 ?_
  refine lv_if_ne (tgt := 17) hx hb d10 (by decide) (fun h => absurd rfl h) (fun _ => ?_)
  refine lv_iconst (v := 1) hx hb d13 (by decide) ?_
  refine lv_goto (tgt := 18) hx hb d14 (by decide) ?_
  exact W.zret hx hb hr rfl (fun t ht hW => ⟨rfl, ht⟩) (fun q h => nomatch h) d18
set_option maxRecDepth 100000 in
/-- Preconditions.checkIndex(i, n, f): i, where 0 ≤ i < n -/
theorem c_pre (l : Launch) {i n : Int32} {f : Value} (hf : f.category = 1) (h0 : ¬ i < 0) (h1 : i < n) : Met l yJ3_checkIndex_8e157 [Cond.code yJ3_checkIndex_8e157 cJ3_checkIndex_8e157 3 (some .int)] (rmS 0 0) (XP base sx [.int i, .int n, f]) (QP (some (.int i))) 0 0 (fun _ => False) := by
  refine Met.ofW (cc := cJ3_checkIndex_8e157) (maxL := 3) (ret := some .int) (by decide) rfl ?_
  intro p e s m args below meth c s₁ B hml hv
  obtain ⟨rfl, σ, hE⟩ := hv
  have hx := B.exec
  have hb := B.bytes
  have hr := B.returns
  have hlocks := B.notSynchronized
  have hsl : lg_sl [.int i, .int n, f] = [.val (.int i), .val (.int n), .val f] := by
    unfold lg_sl
    show [Slot.val (.int i)] ++ ([Slot.val (.int n)] ++ ((if f.category = 2 then [.val f, .second] else [.val f]) ++ [])) = _
    rw [if_neg (by omega)]
    rfl
  have hl := lv_entry ([.int i, .int n, f]) (n := 3) (by rw [hsl]; exact Nat.le_refl _)
  rw [lg_entry_eq]
  generalize (lg_sl ([.int i, .int n, f]) ++ List.replicate (3 - (lg_sl ([.int i, .int n, f])).length) Slot.unset).toArray = ls at hl ⊢
  have hl : lv_has ls 3 ((0, .int i) :: (1, .int n) :: lv_args 2 [f]) := hl
  have d0 : decode cJ3_checkIndex_8e157 0 = .ok (.iload_n 0, 1) := by decide +kernel
  have d1 : decode cJ3_checkIndex_8e157 1 = .ok (.ifCond .lt 8, 3) := by decide +kernel
  have d4 : decode cJ3_checkIndex_8e157 4 = .ok (.iload_n 0, 1) := by decide +kernel
  have d5 : decode cJ3_checkIndex_8e157 5 = .ok (.iload_n 1, 1) := by decide +kernel
  have d6 : decode cJ3_checkIndex_8e157 6 = .ok (.if_icmp .lt 10, 3) := by decide +kernel
  have d16 : decode cJ3_checkIndex_8e157 16 = .ok (.iload_n 0, 1) := by decide +kernel
  have d17 : decode cJ3_checkIndex_8e157 17 = .ok (.ireturn, 1) := by decide +kernel
  refine lv_iload_n hx hb d0 rfl (lv_at hl 0 rfl) ?_
  refine lv_if_lt (tgt := 9) hx hb d1 (by decide) (fun h => absurd h h0) (fun _ => ?_)
  refine lv_iload_n hx hb d4 rfl (lv_at hl 0 rfl) ?_
  refine lv_iload_n hx hb d5 rfl (lv_at hl 1 rfl) ?_
  refine lv_icmp_lt (tgt := 16) hx hb d6 (by decide) (fun _ => ?_) (fun h => absurd h1 h)
  refine lv_iload_n hx hb d16 rfl (lv_at hl 0 rfl) ?_
  exact W.iret hx hb hr (fun t ht hW => ⟨rfl, ht⟩) (fun q h => nomatch h) d17

theorem static_call {p : Program} {l : Launch} {e : Env} {R : Room} {s : State} {mi : MethodId} {args : Array Value} {below : List Frame} {meth : Method} {c : Code} {locs : List Loc} {cells slots : Nat} {Q : State → Prop} {cc : ByteArray} {nL : Nat} (hx : p.tables.exec = Jvm.exec) (hb : c.code = cc) (hml : c.maxLocals = nL) {own : String} (hown : s.vm.findClass own = some mi.cls) {σ : Sg} (hE : Ex base sx σ s s.heap)
    {y : MethodName} {bytes : ByteArray} {maxL index f lo : Nat} {ret : Option FieldType} {as : List Value} {r : Option Value} {Pc : Array Value → State → Prop} {n : Nat} (hM : Met l y [Cond.code y bytes maxL ret] (rmS f lo) Pc (QP r) 0 0 (fun _ => False)) (hbl : FrameBlind Pc) (hPc : ∀ U : State, U.heap = s.heap → s.WarmedH U.vm → Pc as.toArray U) (w1 w2 w3 w4 : Nat) (h1 : inT w1 (Cond.code y bytes maxL ret) = true) (h2 : inT w2 (Cond.initialized y.cls) = true) (h3 : inT w3 (Cond.methodLink own index y) = true) (h4 : inT w4 (Cond.static y) = true)
    (hd : y.cls ≠ "java/lang/invoke/MethodHandle" ∧ y.cls ≠ "java/lang/invoke/VarHandle" ∧ (parseMethodDescriptor y.desc).map (fun d => d.parameters.length) = some n) (hn : as.length = n) (hR : f + 1 ≤ R.frames ∧ 8 + (maxL + 11) + lo ≤ R.locals) (hf : cells ≤ R.cells ∧ slots ≤ R.slots)
    {pc : Nat} {ls : Array Slot} {st0 rest : List Value} (hls : ls.size = nL) (hst : st0 = as.reverse ++ rest) (hcat : (rest.map fun v => v.category).sum ≤ 8) (hdg : decode cc pc = .ok (.invokestatic index, 3)) (kk : W p l e R s mi args below meth c s.heap locs cells slots Q (F0 mi (pc + 3) ls (r.toList ++ rest))) : W p l e R s mi args below meth c s.heap locs cells slots Q (F0 mi pc ls st0) := by
  refine pure_call (va_runS (As := as) (rest := rest) (Ts := []) ⟨hx, hb, hml, hown, fun w h => nomatch h⟩ hM ⟨mkCB hE.1 (inT_mem h1) (inT_mem h2) (inT_mem h3) hd hR, kw hE.1 w4 h4⟩ ⟨hbl, hPc⟩ rfl hn hls hst (lv_room hcat) hdg hf) kk
theorem XP.now {s : State} {σ : Sg} (hE : Ex base sx σ s s.heap) {as : List Value} : ∀ U : State, U.heap = s.heap → s.WarmedH U.vm → XP base sx as as.toArray U := fun U hU hW => ⟨rfl, σ, Ex.go hW (fun a _ _ => by rw [hU]) rfl hE⟩
theorem virtual_call {p : Program} {l : Launch} {e : Env} {R : Room} {s : State} {mi : MethodId} {args : Array Value} {below : List Frame} {meth : Method} {c : Code} {locs : List Loc} {cells slots : Nat} {Q : State → Prop} {cc : ByteArray} {nL : Nat} (hx : p.tables.exec = Jvm.exec) (hb : c.code = cc) (hml : c.maxLocals = nL) {own : String} (hown : s.vm.findClass own = some mi.cls) {σ : Sg} (hE : Ex base sx σ s s.heap) {H : Heap} (hS : va_S (fun q => base ≤ q) s.heap H locs)
    {y : MethodName} {bytes : ByteArray} {maxL index f lo : Nat} {ret : Option FieldType} {as : List Value} {k n : Nat} (hk : k < am_strs.length) {r : Option Value} (hM : Met l y [Cond.code y bytes maxL ret] (rmS f lo) (XP base sx (.ref (sx (k + 1)) :: as)) (QP r) 0 0 (fun _ => False)) (w1 w2 w3 w4 w5 : Nat) (h1 : inT w1 (Cond.code y bytes maxL ret) = true) (h2 : inT w2 (Cond.initialized y.cls) = true) (h3 : inT w3 (Cond.methodLink own index y) = true) (h4 : inT w4 (Cond.instanceMethod y) = true) (h5 : inT w5 (Cond.selects "java/lang/String" y y) = true)
    (hd : y.cls ≠ "java/lang/invoke/MethodHandle" ∧ y.cls ≠ "java/lang/invoke/VarHandle" ∧ (parseMethodDescriptor y.desc).map (fun d => d.parameters.length) = some n) (hn : as.length = n) (hR : f + 1 ≤ R.frames ∧ 8 + (maxL + 11) + lo ≤ R.locals) (hf : cells ≤ R.cells ∧ slots ≤ R.slots)
    {pc : Nat} {ls : Array Slot} {st0 rest : List Value} (hls : ls.size = nL) (hst : st0 = as.reverse ++ .ref (sx (k + 1)) :: rest) (hcat : (rest.map fun v => v.category).sum ≤ 8) (hdg : decode cc pc = .ok (.invokevirtual index, 3)) (kk : W p l e R s mi args below meth c H locs cells slots Q (F0 mi (pc + 3) ls (r.toList ++ rest))) : W p l e R s mi args below meth c H locs cells slots Q (F0 mi pc ls st0) := by
  have hO : va_O "java/lang/String" (sx (k + 1)) (fun q => base ≤ q) s H := by
    obtain ⟨q, ad, -, -, h3, -⟩ := hE.2.2.2.2.1 k hk
    exact h3.kept hS.2.1
  have hrecv : ∃ cellB : Cell, H[sx (k + 1)]? = some cellB ∧ cellB.vm.isStatics = false ∧ s.vm.findClass "java/lang/String" = some cellB.cls := by
    obtain ⟨cell, h1, h2, h3, -⟩ := hO
    exact ⟨cell, h1, h2, h3⟩
  refine pure_call (va_runV (As := as) (rest := rest) (Ts := []) ⟨hx, hb, hml, hown, fun w h => nomatch h⟩ hM ⟨mkCB hE.1 (inT_mem h1) (inT_mem h2) (inT_mem h3) hd hR, kw hE.1 w4 h4, kw hE.1 w5 h5⟩ ⟨XP.blind, hrecv, fun U hU hW => ⟨rfl, σ, Ex.go hW (fun a ha hA => by rw [hU]; exact hS.2.1 a ha hA) rfl hE⟩⟩ rfl hn hls hst (lv_room hcat) hdg hf) kk
set_option maxRecDepth 100000 in
/-- String.checkIndex(i, n), where 0 ≤ i < n -/
theorem c_checkIdx (l : Launch) {i n : Int32} (h0 : ¬ i < 0) (h1 : i < n) : Met l yJ0_checkIndex_df160 [Cond.code yJ0_checkIndex_df160 cJ0_checkIndex_df160 2 none] (rmS 1 22) (XP base sx [.int i, .int n]) (QP none) 0 0 (fun _ => False) := by
  refine Met.ofW (cc := cJ0_checkIndex_df160) (maxL := 2) (ret := none) (by decide) rfl ?_
  intro p e s m args below meth c s₁ B hml hv
  obtain ⟨rfl, σ, hE⟩ := hv
  have hx := B.exec
  have hb := B.bytes
  have hr := B.returns
  have hown : s.vm.findClass RJ0 = some m.cls := findClass_of_methodNamed B.named
  have hlocks := B.notSynchronized
  obtain ⟨hK, -, -, -, -, -, -, -, -, -, -, -, hzq, -⟩ := id hE
  have hS : va_S (fun q => base ≤ q) s.heap s.heap [] := va_S.rf
  have hl := lv_entry ([.int i, .int n]) (n := 2) (Nat.le_of_ble_eq_true rfl)
  rw [lg_entry_eq]
  generalize (lg_sl ([.int i, .int n]) ++ List.replicate (2 - (lg_sl ([.int i, .int n])).length) Slot.unset).toArray = ls at hl ⊢
  have hl : lv_has ls 2 [(0, .int i), (1, .int n)] := hl
  have d0 : decode cJ0_checkIndex_df160 0 = .ok (.iload_n 0, 1) := by decide +kernel
  have d1 : decode cJ0_checkIndex_df160 1 = .ok (.iload_n 1, 1) := by decide +kernel
  have d2 : decode cJ0_checkIndex_df160 2 = .ok (.getstatic 1053, 3) := by decide +kernel
  have d5 : decode cJ0_checkIndex_df160 5 = .ok (.invokestatic 1059, 3) := by decide +kernel
  have d8 : decode cJ0_checkIndex_df160 8 = .ok (.pop, 1) := by decide +kernel
  have d9 : decode cJ0_checkIndex_df160 9 = .ok (.return_, 1) := by decide +kernel
  obtain ⟨f, hfc, hz⟩ : ∃ f : Value, f.category = 1 ∧ va_Z "jdk/internal/util/Preconditions" "SIOOBE_FORMATTER" "Ljava/util/function/BiFunction;" f (fun q => base ≤ q) s s.heap := by
    rcases hzq with h | ⟨t, h⟩
    · exact ⟨_, rfl, h⟩
    · exact ⟨_, rfl, h⟩
  refine lv_iload_n hx hb d0 rfl (lv_at hl 0 rfl) ?_
  refine lv_iload_n hx hb d1 rfl (lv_at hl 1 rfl) ?_
  refine va_gets hx hb hz hS hown (kw hK 520 (w := .fieldLink RJ0 1053 "jdk/internal/util/Preconditions" "SIOOBE_FORMATTER" "Ljava/util/function/BiFunction;") (by decide +kernel)) (fun _ h => h) d2 ?_
  refine static_call (as := [.int i, .int n, f]) (rest := []) (r := some (.int i)) hx hb hml hown hE (c_pre l hfc h0 h1) XP.blind (XP.now hE) 524 109 522 523 (by decide +kernel) (by decide +kernel) (by decide +kernel) (by decide +kernel) (n := 3) (by decide +kernel) rfl ⟨Nat.le_of_ble_eq_true rfl, Nat.le_of_ble_eq_true rfl⟩ ⟨Nat.zero_le _, Nat.zero_le _⟩ hl.1 rfl (Nat.zero_le _) d5 ?_
  refine lv_pop hx hb d8 rfl ?_
  exact W.vret hx hb hr (fun t ht hW => ⟨rfl, ht⟩) (fun q h => nomatch h) d9
theorem ch_all : ∀ n : Nat, n < 128 → Int32.ofInt (n : Int) &&& (255 : Int32) = Int32.ofInt (n : Int) ∧ ((Int32.ofInt (n : Int)).toUInt32 % 65536).toInt32 = Int32.ofInt (n : Int) ∧ narrow .char (.int (Int32.ofInt (n : Int))) = .int (Int32.ofInt (n : Int)) := by decide
theorem txt_all : ∀ t ∈ am_txt, ∀ x ∈ t, 0 ≤ x ∧ x < 128 := by decide +kernel
theorem txt_len : ∀ t ∈ am_txt, t.length < 1000 := by decide +kernel
theorem txt_at {k i : Nat} (hk : k < am_txt.length) (hi : i < (text (k + 1)).length) : ∃ n : Nat, n < 128 ∧ (text (k + 1)).getD i 0 = (n : Int) := by
  have h1 : text (k + 1) ∈ am_txt := by
    show am_txt.getD k [] ∈ am_txt
    rw [List.getD_eq_getElem?_getD, List.getElem?_eq_getElem hk]
    exact List.getElem_mem hk
  have h2 : (text (k + 1)).getD i 0 ∈ text (k + 1) := by
    rw [List.getD_eq_getElem?_getD, List.getElem?_eq_getElem hi]
    exact List.getElem_mem hi
  obtain ⟨h3, h4⟩ := txt_all _ h1 _ h2
  obtain ⟨n, hn⟩ := Int.eq_ofNat_of_zero_le h3
  exact ⟨n, by omega, hn⟩
theorem len_at {k : Nat} (hk : k < am_txt.length) : (text (k + 1)).length < 1000 := txt_len _ (by
  show am_txt.getD k [] ∈ am_txt
  rw [List.getD_eq_getElem?_getD, List.getElem?_eq_getElem hk]
  exact List.getElem_mem hk)
def L1P (base : Nat) (sx : Nat → Nat) (k ad : Nat) (i : Int) : Array Value → State → Prop := fun v U => XP base sx [.ref ad, .int (Int32.ofInt i)] v U ∧ va_T .byte ad (text (k + 1)).length (fun j => .int (Int32.ofInt ((text (k + 1)).getD j 0))) (fun q => base ≤ q) U U.heap
set_option maxRecDepth 100000 in
/-- StringLatin1.charAt(bytes, i) -/
theorem c_l1 (l : Launch) (k : Nat) (hk : k < am_txt.length) {ad : Nat} {i : Int} (hir : inR i) (h0 : 0 ≤ i) (h1 : i < (text (k + 1)).length) : Met l yJ1_charAt_3b067 [Cond.code yJ1_charAt_3b067 cJ1_charAt_3b067 2 (some .char)] (rmS 2 43) (L1P base sx k ad i) (QP (some (.int (Int32.ofInt ((text (k + 1)).getD i.toNat 0))))) 0 0 (fun _ => False) := by
  refine Met.ofW (cc := cJ1_charAt_3b067) (maxL := 2) (ret := some .char) (by decide) rfl ?_
  intro p e s m args below meth c s₁ B hml hv
  obtain ⟨⟨rfl, σ, hE⟩, hT⟩ := hv
  have hx := B.exec
  have hb := B.bytes
  have hr := B.returns
  have hown : s.vm.findClass RJ1 = some m.cls := findClass_of_methodNamed B.named
  have hlocks := B.notSynchronized
  have hS : va_S (fun q => base ≤ q) s.heap s.heap [] := va_S.rf
  have hlen := len_at hk
  generalize hN : (text (k + 1)).length = N at *
  have hl := lv_entry ([.ref ad, .int (Int32.ofInt i)]) (n := 2) (Nat.le_of_ble_eq_true rfl)
  rw [lg_entry_eq]
  generalize (lg_sl ([.ref ad, .int (Int32.ofInt i)]) ++ List.replicate (2 - (lg_sl ([.ref ad, .int (Int32.ofInt i)])).length) Slot.unset).toArray = ls at hl ⊢
  have hl : lv_has ls 2 [(0, .ref ad), (1, .int (Int32.ofInt i))] := hl
  have d0 : decode cJ1_charAt_3b067 0 = .ok (.iload_n 1, 1) := by decide +kernel
  have d1 : decode cJ1_charAt_3b067 1 = .ok (.aload_n 0, 1) := by decide +kernel
  have d2 : decode cJ1_charAt_3b067 2 = .ok (.arraylength, 1) := by decide +kernel
  have d3 : decode cJ1_charAt_3b067 3 = .ok (.invokestatic 9, 3) := by decide +kernel
  have d6 : decode cJ1_charAt_3b067 6 = .ok (.aload_n 0, 1) := by decide +kernel
  have d7 : decode cJ1_charAt_3b067 7 = .ok (.iload_n 1, 1) := by decide +kernel
  have d8 : decode cJ1_charAt_3b067 8 = .ok (.baload, 1) := by decide +kernel
  have d9 : decode cJ1_charAt_3b067 9 = .ok (.sipush 255, 3) := by decide +kernel
  have d12 : decode cJ1_charAt_3b067 12 = .ok (.iand, 1) := by decide +kernel
  have d13 : decode cJ1_charAt_3b067 13 = .ok (.i2c, 1) := by decide +kernel
  have d14 : decode cJ1_charAt_3b067 14 = .ok (.ireturn, 1) := by decide +kernel
  have hn1 : ¬ Int32.ofInt i < 0 := fun h => by have := (ofI_lt hir inR_0).mp h; omega
  have hn2 : Int32.ofInt i < Int32.ofNat N := (ofI_lt (y := (N : Int)) hir (by unfold inR; omega)).mpr (by omega)
  refine lv_iload_n hx hb d0 rfl (lv_at hl 1 rfl) ?_
  refine lv_aload_n hx hb d1 rfl (lv_at hl 0 rfl) ?_
  refine va_tlen hx hb hT hS rfl d2 ?_
  refine static_call (as := [.int (Int32.ofInt i), .int (Int32.ofNat N)]) (rest := []) (r := none) hx hb hml hown hE (c_checkIdx l hn1 hn2) XP.blind (XP.now hE) 519 107 517 518 (by decide +kernel) (by decide +kernel) (by decide +kernel) (by decide +kernel) (n := 2) (by decide +kernel) rfl ⟨Nat.le_of_ble_eq_true rfl, Nat.le_of_ble_eq_true rfl⟩ ⟨Nat.zero_le _, Nat.zero_le _⟩ hl.1 rfl (Nat.zero_le _) d3 ?_
  refine lv_aload_n hx hb d6 rfl (lv_at hl 0 rfl) ?_
  refine lv_iload_n hx hb d7 rfl (lv_at hl 1 rfl) ?_
  refine va_tb (v := .int (Int32.ofInt ((text (k + 1)).getD i.toNat 0))) hx hb hT hS (ofI_vp hir h0 h1) (by rw [toI_cl hir]) d8 ?_
  obtain ⟨n, hn, hc⟩ := txt_at (k := k) (i := i.toNat) hk (by omega)
  obtain ⟨g1, g2, g3⟩ := ch_all n hn
  rw [hc]
  refine lv_sipush (v := 255) hx hb d9 rfl ?_
  refine lv_iand hx hb d12 ?_
  rw [g1]
  refine lv_i2c hx hb d13 g2 ?_
  exact W.zret hx hb hr g3 (fun t ht hW => ⟨rfl, ht⟩) (fun q h => nomatch h) d14

set_option maxRecDepth 100000 in
/-- String.length() -/
theorem c_length (l : Launch) (k : Nat) (hk : k < am_strs.length) (hk2 : k < am_txt.length) : Met l yJ0_length_8abf5 [Cond.code yJ0_length_8abf5 cJ0_length_8abf5 1 (some .int)] (rmS 1 20) (XP base sx [.ref (sx (k + 1))]) (QP (some (.int (Int32.ofInt ((text (k + 1)).length : Int))))) 0 0 (fun _ => False) := by
  refine Met.ofW (cc := cJ0_length_8abf5) (maxL := 1) (ret := some .int) (by decide) rfl ?_
  intro p e s m args below meth c s₁ B hml hv
  obtain ⟨rfl, σ, hE⟩ := hv
  have hx := B.exec
  have hb := B.bytes
  have hr := B.returns
  have hown : s.vm.findClass RJ0 = some m.cls := findClass_of_methodNamed B.named
  have hlocks := B.notSynchronized
  obtain ⟨hK, -, -, -, hstr, -⟩ := id hE
  obtain ⟨q, ad, -, -, -, hco, hva, hT⟩ := hstr k hk
  have hS : va_S (fun q => base ≤ q) s.heap s.heap [] := va_S.rf
  have hl := lv_entry ([.ref (sx (k + 1))]) (n := 1) (Nat.le_of_ble_eq_true rfl)
  rw [lg_entry_eq]
  generalize (lg_sl ([.ref (sx (k + 1))]) ++ List.replicate (1 - (lg_sl ([.ref (sx (k + 1))])).length) Slot.unset).toArray = ls at hl ⊢
  have hl : lv_has ls 1 [(0, .ref (sx (k + 1)))] := hl
  have d0 : decode cJ0_length_8abf5 0 = .ok (.aload_n 0, 1) := by decide +kernel
  have d1 : decode cJ0_length_8abf5 1 = .ok (.getfield 9, 3) := by decide +kernel
  have d4 : decode cJ0_length_8abf5 4 = .ok (.arraylength, 1) := by decide +kernel
  have d5 : decode cJ0_length_8abf5 5 = .ok (.aload_n 0, 1) := by decide +kernel
  have d6 : decode cJ0_length_8abf5 6 = .ok (.invokevirtual 335, 3) := by decide +kernel
  have d9 : decode cJ0_length_8abf5 9 = .ok (.ishr, 1) := by decide +kernel
  have d10 : decode cJ0_length_8abf5 10 = .ok (.ireturn, 1) := by decide +kernel
  refine lv_aload_n hx hb d0 rfl (lv_at hl 0 rfl) ?_
  refine vk_getf hx hb hva hS hown (kw hK 2057 (w := .fieldLink RJ0 9 "java/lang/String" "value" "[B") (by decide +kernel)) (fun _ h => h) d1 ?_
  refine va_tlen (v := Int32.ofInt ((text (k + 1)).length : Int)) hx hb hT hS rfl d4 ?_
  refine lv_aload_n hx hb d5 rfl (lv_at hl 0 rfl) ?_
  refine virtual_call (as := []) (rest := [.int (Int32.ofInt ((text (k + 1)).length : Int))]) (r := some (.int 0)) hx hb hml hown hE hS hk (c_coder l k hk) 503 107 500 501 502 (by decide +kernel) (by decide +kernel) (by decide +kernel) (by decide +kernel) (by decide +kernel) (n := 0) (by decide +kernel) rfl ⟨Nat.le_of_ble_eq_true rfl, Nat.le_of_ble_eq_true rfl⟩ ⟨Nat.zero_le _, Nat.zero_le _⟩ hl.1 rfl (Nat.le_of_ble_eq_true rfl) d6 ?_
  refine lv_ishr hx hb d9 ?_
  rw [sb_shr0]
  exact W.iret hx hb hr (fun t ht hW => ⟨rfl, ht⟩) (fun q h => nomatch h) d10
set_option maxRecDepth 100000 in
/-- String.charAt(i) -/
theorem c_charAt (l : Launch) (k : Nat) (hk : k < am_strs.length) (hk2 : k < am_txt.length) {i : Int} (hir : inR i) (h0 : 0 ≤ i) (h1 : i < (text (k + 1)).length) : Met l yJ0_charAt_5068e [Cond.code yJ0_charAt_5068e cJ0_charAt_5068e 2 (some .char)] (rmS 3 64) (XP base sx [.ref (sx (k + 1)), .int (Int32.ofInt i)]) (QP (some (.int (Int32.ofInt ((text (k + 1)).getD i.toNat 0))))) 0 0 (fun _ => False) := by
  refine Met.ofW (cc := cJ0_charAt_5068e) (maxL := 2) (ret := some .char) (by decide) rfl ?_
  intro p e s m args below meth c s₁ B hml hv
  obtain ⟨rfl, σ, hE⟩ := hv
  have hx := B.exec
  have hb := B.bytes
  have hr := B.returns
  have hown : s.vm.findClass RJ0 = some m.cls := findClass_of_methodNamed B.named
  have hlocks := B.notSynchronized
  obtain ⟨hK, -, -, -, hstr, -⟩ := id hE
  obtain ⟨q, ad, -, -, -, hco, hva, hT⟩ := hstr k hk
  have hS : va_S (fun q => base ≤ q) s.heap s.heap [] := va_S.rf
  have hl := lv_entry ([.ref (sx (k + 1)), .int (Int32.ofInt i)]) (n := 2) (Nat.le_of_ble_eq_true rfl)
  rw [lg_entry_eq]
  generalize (lg_sl ([.ref (sx (k + 1)), .int (Int32.ofInt i)]) ++ List.replicate (2 - (lg_sl ([.ref (sx (k + 1)), .int (Int32.ofInt i)])).length) Slot.unset).toArray = ls at hl ⊢
  have hl : lv_has ls 2 [(0, .ref (sx (k + 1))), (1, .int (Int32.ofInt i))] := hl
  have d0 : decode cJ0_charAt_5068e 0 = .ok (.aload_n 0, 1) := by decide +kernel
  have d1 : decode cJ0_charAt_5068e 1 = .ok (.invokevirtual 492, 3) := by decide +kernel
  have d4 : decode cJ0_charAt_5068e 4 = .ok (.ifCond .eq 12, 3) := by decide +kernel
  have d7 : decode cJ0_charAt_5068e 7 = .ok (.aload_n 0, 1) := by decide +kernel
  have d8 : decode cJ0_charAt_5068e 8 = .ok (.getfield 9, 3) := by decide +kernel
  have d11 : decode cJ0_charAt_5068e 11 = .ok (.iload_n 1, 1) := by decide +kernel
  have d12 : decode cJ0_charAt_5068e 12 = .ok (.invokestatic 495, 3) := by decide +kernel
  have d15 : decode cJ0_charAt_5068e 15 = .ok (.ireturn, 1) := by decide +kernel
  obtain ⟨n, hn, hc⟩ := txt_at (k := k) (i := i.toNat) hk2 (by omega)
  obtain ⟨g1, g2, g3⟩ := ch_all n hn
  refine lv_aload_n hx hb d0 rfl (lv_at hl 0 rfl) ?_
  refine virtual_call (as := []) (rest := []) (r := some (.int 1)) hx hb hml hown hE hS hk (c_isLatin1 l k hk) 513 107 510 511 512 (by decide +kernel) (by decide +kernel) (by decide +kernel) (by decide +kernel) (by decide +kernel) (n := 0) (by decide +kernel) rfl ⟨Nat.le_of_ble_eq_true rfl, Nat.le_of_ble_eq_true rfl⟩ ⟨Nat.zero_le _, Nat.zero_le _⟩ hl.1 rfl (Nat.le_of_ble_eq_true rfl) d1 ?_
  refine lv_if_eq (tgt := 16) hx hb d4 (by decide) (fun h => absurd h (by decide)) (fun _ => ?_)
  refine lv_aload_n hx hb d7 rfl (lv_at hl 0 rfl) ?_
  refine vk_getf hx hb hva hS hown (kw hK 2057 (w := .fieldLink RJ0 9 "java/lang/String" "value" "[B") (by decide +kernel)) (fun _ h => h) d8 ?_
  refine lv_iload_n hx hb d11 rfl (lv_at hl 1 rfl) ?_
  refine static_call (as := [.ref ad, .int (Int32.ofInt i)]) (rest := []) (r := some (.int (Int32.ofInt ((text (k + 1)).getD i.toNat 0)))) (Pc := L1P base sx k ad i) hx hb hml hown hE (c_l1 l k hk2 hir h0 h1) ?_ ?_ 516 108 514 515 (by decide +kernel) (by decide +kernel) (by decide +kernel) (by decide +kernel) (n := 2) (by decide +kernel) rfl ⟨Nat.le_of_ble_eq_true rfl, Nat.le_of_ble_eq_true rfl⟩ ⟨Nat.zero_le _, Nat.zero_le _⟩ hl.1 rfl (Nat.zero_le _) d12 ?_
  · exact fun a U g mk q => ⟨XP.blind a U g mk q.1, va_T.moved (Vm.Alike.refl U.vm) q.2⟩
  · exact fun U hU hW => ⟨XP.now hE U hU hW, va_T.moved hW.alike (by rw [hU]; exact hT)⟩
  · rw [hc]
    exact W.zret hx hb hr g3 (fun t ht hW => ⟨rfl, ht⟩) (fun q h => nomatch h) d15
end STR

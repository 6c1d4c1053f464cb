/-! the rows of switches, and of the instructions that read or write the heap -/
section ROWS
variable {base : Nat} {sx : Nat → Nat} {dC : Nat → ClassId} {dI : Nat → Nat → Nat} {p : Program} {l : Launch} {e : Env} {R : Room} {s : State} {mi : MethodId} {args : Array Value} {below : List Frame} {meth : Method} {c : Code} {Q : State → Prop} {m n0 m0 pc : Nat} {al st : List AV} {σ : Sg}
theorem k_icmp (C : CX p l R s mi meth c m) {cd : ClassFile.Cond} {off : Int} (hd : decode (am_b m) pc = .ok (.if_icmp cd off, 3)) {x y : Int} (kt : icond cd x y = true → Kt base sx dC dI p l e R s mi args below meth c Q m n0 m0 (((pc : Int) + off).toNat) (al) (st) (σ)) (kf : icond cd x y = false → Kt base sx dC dI p l e R s mi args below meth c Q m n0 m0 (pc + 3) (al) (st) (σ)) (ht : 0 ≤ (pc : Int) + off) : Kt base sx dC dI p l e R s mi args below meth c Q m n0 m0 (pc) (al) (AI y :: AI x :: st) (σ) := by
  intro H locs cells slots ls hL hn ha hst hW hS h1 h2
  have hy : inR y := okh hst
  have hx : inR x := okh (okt hst)
  have h3 : ((pc : Int) + off) = ((((pc : Int) + off).toNat : Nat) : Int) := by omega
  have T := fun (q : icond cd x y = true) => kt q H locs cells slots ls hL hn ha (okt (okt hst)) hW hS h1 h2
  have F := fun (q : icond cd x y = false) => kf q H locs cells slots ls hL hn ha (okt (okt hst)) hW hS h1 h2
  cases cd with
  | eq => exact lv_icmp_eq C.1 C.2.1 hd h3 (fun q => T (by simpa [icond] using (ofI_eq hx hy).mp q)) (fun q => F (by simpa [icond] using fun h => q ((ofI_eq hx hy).mpr h)))
  | ne => exact lv_icmp_ne C.1 C.2.1 hd h3 (fun q => T (by simpa [icond] using fun h => q ((ofI_eq hx hy).mpr h))) (fun q => F (by simpa [icond] using (ofI_eq hx hy).mp q))
  | lt => exact lv_icmp_lt C.1 C.2.1 hd h3 (fun q => T (by simpa [icond] using (ofI_lt hx hy).mp q)) (fun q => F (by simpa [icond] using fun h => q ((ofI_lt hx hy).mpr h)))
  | ge => exact lv_icmp_ge C.1 C.2.1 hd h3 (fun q => T (by simpa [icond] using (ofI_le hy hx).mp q)) (fun q => F (by simpa [icond] using fun h => q ((ofI_le hy hx).mpr h)))
  | gt => exact lv_icmp_gt C.1 C.2.1 hd h3 (fun q => T (by simpa [icond] using (ofI_lt hy hx).mp q)) (fun q => F (by simpa [icond] using fun h => q ((ofI_lt hy hx).mpr h)))
  | le => exact lv_icmp_le C.1 C.2.1 hd h3 (fun q => T (by simpa [icond] using (ofI_le hx hy).mp q)) (fun q => F (by simpa [icond] using fun h => q ((ofI_le hx hy).mpr h)))
theorem k_tout (C : CX p l R s mi meth c m) {d lo hi : Int} {offs : Array Int} {len : Nat} (hd : decode (am_b m) pc = .ok (.tableswitch d lo hi offs, len)) {x : Int} (hx : x < lo ∨ hi < x) (ht : 0 ≤ (pc : Int) + d) (k : Kt base sx dC dI p l e R s mi args below meth c Q m n0 m0 (((pc : Int) + d).toNat) (al) (st) (σ)) : Kt base sx dC dI p l e R s mi args below meth c Q m n0 m0 (pc) (al) (AI x :: st) (σ) := by
  intro H locs cells slots ls hL hn ha hst hW hS h1 h2
  have h3 : ((pc : Int) + d) = ((((pc : Int) + d).toNat : Nat) : Int) := by omega
  exact lv_tableOut C.1 C.2.1 hd (by rw [toI (okh hst)]; exact hx) h3 (k H locs cells slots ls hL hn ha (okt hst) hW hS h1 h2)
theorem k_tin (C : CX p l R s mi meth c m) {d lo hi off : Int} {offs : Array Int} {len : Nat} (hd : decode (am_b m) pc = .ok (.tableswitch d lo hi offs, len)) {x : Int} (hx : ¬ (x < lo ∨ hi < x)) (ho : offs[(x - lo).toNat]? = some off) (ht : 0 ≤ (pc : Int) + off) (k : Kt base sx dC dI p l e R s mi args below meth c Q m n0 m0 (((pc : Int) + off).toNat) (al) (st) (σ)) : Kt base sx dC dI p l e R s mi args below meth c Q m n0 m0 (pc) (al) (AI x :: st) (σ) := by
  intro H locs cells slots ls hL hn ha hst hW hS h1 h2
  have h3 : ((pc : Int) + off) = ((((pc : Int) + off).toNat : Nat) : Int) := by omega
  exact lv_tableIn C.1 C.2.1 hd (by rw [toI (okh hst)]; exact fun h => hx (Or.inl h)) (by rw [toI (okh hst)]; exact fun h => hx (Or.inr h)) (by rw [toI (okh hst)]; exact ho) h3 (k H locs cells slots ls hL hn ha (okt hst) hW hS h1 h2)
theorem k_look (C : CX p l R s mi meth c m) {d : Int} {ps : Array (Int × Int)} {len : Nat} (hd : decode (am_b m) pc = .ok (.lookupswitch d ps, len)) {x : Int} (hp : (ps.toList.zip (ps.toList.drop 1)).all (fun (a, next) => a.1 < next.1) = true) (ht : 0 ≤ (pc : Int) + Op.lookupswitch.offset ps.toList d x) (k : Kt base sx dC dI p l e R s mi args below meth c Q m n0 m0 (((pc : Int) + Op.lookupswitch.offset ps.toList d x).toNat) (al) (st) (σ)) : Kt base sx dC dI p l e R s mi args below meth c Q m n0 m0 (pc) (al) (AI x :: st) (σ) := by
  intro H locs cells slots ls hL hn ha hst hW hS h1 h2
  exact lv_lookup C.1 C.2.1 hd hp (by rw [toI (okh hst)]) (by omega) (k H locs cells slots ls hL hn ha (okt hst) hW hS h1 h2)
theorem hts_of {σ0 : Sg} (hE : Ex base sx σ0 s s.heap) : ∀ w ∈ lw_tbl, okW w = true → w.before args s = true := fun w hw hk => okW_use hk (hE.1 w hw hk)
/-- the words of a class's fields -/
def uwOK (i : Nat) : Bool := match vwCl[i]? with
  | some (C, T, N) => (u_ws C T N).all (fun w => okW w && decide (w ∈ lw_tbl))
  | none => true
def UW : Prop := ∀ (i : Nat) (C : String) (T : u_T) (N : Nat), vwCl[i]? = some (C, T, N) → (∀ w ∈ u_ws C T N, w ∈ lw_tbl ∧ okW w = true) ∧ (∀ k, k < N → ∃ ty, parseFieldDescriptor (T k).2.2.1 = some ty ∧ (ftc (T k).2.2.1 = 1 → (∀ v : Value, v.isRef = true → narrow ty v = v ∧ fits ty v = true) ∧ defaultValue ty = .null) ∧ (ftc (T k).2.2.1 = 0 → ty = .int) ∧ (ftc (T k).2.2.1 = 2 → ty = .boolean)) ∧ (∀ a, a < N → ∀ b, b < N → a ≠ b → (T a).2.1 ≠ (T b).2.1)
theorem fchk_at {i a b c w : Nat} (h : fchk m i a b c w = true) : ∃ (C : String) (T : u_T) (N : Nat), vwCl[a]? = some (C, T, N) ∧ b < N ∧ Cond.fieldLink (am_own m) i C (T b).2.1 (T b).2.2.1 ∈ lw_tbl ∧ okW (Cond.fieldLink (am_own m) i C (T b).2.1 (T b).2.2.1) = true ∧ (T b).1 = C ∧ ftc (T b).2.2.1 = c := by
  unfold fchk at h
  split at h
  · next C T N hv =>
    simp only [Bool.and_eq_true, decide_eq_true_eq] at h
    obtain ⟨⟨⟨h1, h2⟩, h3⟩, h4⟩ := h
    exact ⟨C, T, N, hv, h1, (inT_mem h2).1, (inT_mem h2).2, h3, h4⟩
  · cases h
theorem ent_obj {ca : Nat → ClassId} {k : Nat} {q : AKd} (h : q.1 < 20) : entE base ca σ k q = .inr (q.1, (List.range q.2.1).map (fval base σ k q)) := by unfold entE; rw [if_pos h]
theorem fval_i {k : Nat} {q : AKd} {j : Nat} {C : String} {T : u_T} {N : Nat} (hv : vwCl[q.1]? = some (C, T, N)) (h : ¬ ftc (T j).2.2.1 = 1) : fval base σ k q j = .int (Int32.ofInt (get σ k j)) := by unfold fval; rw [hv]; exact if_neg h
theorem fval_r {k : Nat} {q : AKd} {j : Nat} {C : String} {T : u_T} {N : Nat} (hv : vwCl[q.1]? = some (C, T, N)) (h : ftc (T j).2.2.1 = 1) : fval base σ k q j = cr base (q.2.2.getD j 0) := by unfold fval; rw [hv]; exact if_pos h
theorem kdOK_N {q : AKd} {C : String} {T : u_T} {N : Nat} (h : kdOK q) (hv : vwCl[q.1]? = some (C, T, N)) : q.1 < 20 ∧ q.2.1 = N := by
  rcases h.1 with ⟨h1, C', T', h2⟩ | ⟨h1, h2⟩
  · rw [hv] at h2; cases h2; exact ⟨h1, rfl⟩
  · have : vwCl[q.1]? = none := List.getElem?_eq_none (by show 13 ≤ q.1; omega)
    rw [this] at hv; cases hv
theorem getf_val {k j : Nat} {q : AKd} {v : Value} (hj : j < q.2.1) (hv : fval base σ k q j = v) : ((List.range q.2.1).map (fval base σ k q))[j]? = some v := by
  rw [List.getElem?_map, List.getElem?_range hj]
  exact congrArg some hv
theorem k_getfield (C : CX p l R s mi meth c m) (U : UW) {σ0 : Sg} (hE : Ex base sx σ0 s s.heap) {i a b cc w : Nat} (hf : fchk m i a b cc w = true) (hd : decode (am_b m) pc = .ok (.getfield i, 3)) {k : Nat} (hk : okd σ k = a) (hr : cc = 1 → orf σ k b ≠ 0)
    (k1 : Kt base sx dC dI p l e R s mi args below meth c Q m n0 m0 (pc + 3) (al) ((if cc = 1 then AR (orf σ k b) else AI (get σ k b)) :: st) (σ)) : Kt base sx dC dI p l e R s mi args below meth c Q m n0 m0 (pc) (al) (AR k :: st) (σ) := by
  intro H locs cells slots ls hL hn ha hst hW hS h1 h2
  obtain ⟨R9, T, N, hv, hb, hw, ho, hT, hc⟩ := fchk_at hf
  have ha99 : a ≠ 99 := fun h => by subst h; have : vwCl[99]? = none := rfl; rw [this] at hv; cases hv
  obtain ⟨k0, q, rfl, hq, rfl⟩ := okd_at hk ha99
  obtain ⟨ca, tys, w1, w2, w3, w4, w5⟩ := id hW
  obtain ⟨g1, -⟩ := w2 k0 q hq
  obtain ⟨hlt, hN⟩ := kdOK_N g1 hv
  have hE1 := hts_of (args := args) hE
  have hin : ∀ w ∈ u_ws R9 T N, w ∈ lw_tbl.filter okW := fun w h => List.mem_filter.mpr ((U q.1 R9 T N hv).1 w h)
  have hts : ∀ w ∈ lw_tbl.filter okW, w.before args s = true := fun w h => hE1 w (List.mem_filter.mp h).1 (List.mem_filter.mp h).2
  have hws : (wsOf base ca σ)[k0]? = some (base + k0, .inr (q.1, (List.range q.2.1).map (fval base σ (k0 + 1) q))) := by rw [wsOf_get, hq, ← ent_obj hlt]; rfl
  have key : ∀ v : Value, fval base σ (k0 + 1) q b = v → W p l e R s mi args below meth c H locs cells slots Q (F0 mi (pc + 3) ls (v :: st.map (cv base sx))) → W p l e R s mi args below meth c H locs cells slots Q (F0 mi pc ls (.ref (base + k0) :: st.map (cv base sx))) := fun v hval kk =>
    va_get (C := R9) (T := T) (N := N) (ref := R9) C.1 C.2.1 hts hin C.2.2.2.1 w1 w3 k0 hws hv b hb (hts _ (List.mem_filter.mpr ⟨hw, ho⟩)) (by rw [hT]; exact fun _ h => h) (v := v) (getf_val (by rw [hN]; exact hb) hval) hd kk
  by_cases h1c : cc = 1
  · rw [if_pos h1c] at k1
    have hor : orf σ (k0 + 1) b = q.2.2.getD b 0 := orf_at hq
    obtain ⟨j, hj⟩ : ∃ j, orf σ (k0 + 1) b = j + 1 := ⟨orf σ (k0 + 1) b - 1, by have := hr h1c; omega⟩
    rw [hj] at k1
    refine key _ ?_ (k1 H locs cells slots ls hL hn ha (okc trivial (okt hst)) hW hS h1 h2)
    rw [fval_r hv (hc.trans h1c), ← hor, hj]
    rfl
  · rw [if_neg h1c] at k1
    exact key _ (fval_i hv (fun h => h1c (hc ▸ h))) (k1 H locs cells slots ls hL hn ha (okc (w5 _ _) (okt hst)) hW hS h1 h2)
end ROWS

/-! the rows that write the heap -/
section ROWS
variable {base : Nat} {sx : Nat → Nat} {dC : Nat → ClassId} {dI : Nat → Nat → Nat} {p : Program} {l : Launch} {e : Env} {R : Room} {s : State} {mi : MethodId} {args : Array Value} {below : List Frame} {meth : Method} {c : Code} {Q : State → Prop} {m n0 m0 pc : Nat} {al st : List AV} {σ : Sg}
theorem pchk_at {a b : Nat} {C : String} {T : u_T} {N : Nat} (h : pchk m a b = true) (hv : vwCl[a]? = some (C, T, N)) : (T b).2.2.2 = false ∨ ((T b).2.2.2 = true ∧ isInit m = true ∧ C = am_own m) := by
  unfold pchk at h
  rw [hv] at h
  simp only [Bool.or_eq_true, Bool.not_eq_true', Bool.and_eq_true, decide_eq_true_eq] at h
  rcases h with h | ⟨h1, h2⟩
  · exact Or.inl h
  · cases hb : (T b).2.2.2 with
    | false => exact Or.inl rfl
    | true => exact Or.inr ⟨rfl, h1, h2⟩
theorem map_set {k b : Nat} {q q' : AKd} {σ' : Sg} {v : Value} (hb : b < q.2.1) (hl : q'.2.1 = q.2.1) (hv : fval base σ' k q' b = v) (ho : ∀ j, j ≠ b → fval base σ' k q' j = fval base σ k q j) : (List.range q'.2.1).map (fval base σ' k q') = ((List.range q.2.1).map (fval base σ k q)).set b v := by
  rw [hl]
  apply List.ext_getElem?
  intro j
  by_cases e : j = b
  · subst e
    rw [List.getElem?_set_self (by simpa using hb), List.getElem?_map, List.getElem?_range hb]
    exact congrArg some hv
  · rw [List.getElem?_set_ne (Ne.symm e), List.getElem?_map, List.getElem?_map]
    cases hj : (List.range q.2.1)[j]? with
    | none => rfl
    | some z =>
      have hz : z = j := by
        have h1 := List.getElem?_eq_some_iff.mp hj
        obtain ⟨h2, h3⟩ := h1
        rw [List.getElem_range] at h3
        exact h3.symm
      subst hz
      exact congrArg some (ho z e)
/-- putfield, in general: the new state differs in one object's slot -/
theorem k_put (C : CX p l R s mi meth c m) (U : UW) {σ0 σ' : Sg} (hE : Ex base sx σ0 s s.heap) {i a b cc w : Nat} (hf : fchk m i a b cc w = true) (hp : pchk m a b = true) (hd : decode (am_b m) pc = .ok (.putfield i, 3)) {k0 : Nat} {q q' : AKd} (hq : σ.1[k0]? = some q) (hqa : q.1 = a) {v : AV}
    (hK : q'.1 = q.1 ∧ q'.2.1 = q.2.1 ∧ q'.2.2.length = q.2.2.length) (e1 : σ'.1 = σ.1.set k0 q') (e2 : ∀ i j, i ≠ k0 → get σ' (i + 1) j = get σ (i + 1) j) (e3 : (∀ k j, inR (get σ k j)) → okA v → ∀ k j, inR (get σ' k j)) (e4 : σ'.2.2 = σ.2.2)
    (hv : ∀ (C : String) (T : u_T) (N : Nat), vwCl[a]? = some (C, T, N) → fval base σ' (k0 + 1) q' b = cv base sx v ∧ (∀ j, j ≠ b → fval base σ' (k0 + 1) q' j = fval base σ (k0 + 1) q j) ∧ ∀ ty, parseFieldDescriptor (T b).2.2.1 = some ty → (ftc (T b).2.2.1 = 1 → (∀ v : Value, v.isRef = true → narrow ty v = v ∧ fits ty v = true) ∧ defaultValue ty = .null) → (ftc (T b).2.2.1 = 0 → ty = .int) → (ftc (T b).2.2.1 = 2 → ty = .boolean) → narrow ty (cv base sx v) = cv base sx v ∧ fits ty (cv base sx v) = true)
    (k1 : Kt base sx dC dI p l e R s mi args below meth c Q m n0 m0 (pc + 3) (al) (st) (σ')) : Kt base sx dC dI p l e R s mi args below meth c Q m n0 m0 (pc) (al) (v :: AR (k0 + 1) :: st) (σ) := by
  intro H locs cells slots ls hL hn ha hst hW hS h1 h2
  obtain ⟨R9, T, N, hvw, hb, hw, ho, hT, hc⟩ := fchk_at hf
  subst hqa
  obtain ⟨ca, tys, w1, w2, w3, w4, w5⟩ := id hW
  obtain ⟨g1, -⟩ := w2 k0 q hq
  obtain ⟨hlt, hN⟩ := kdOK_N g1 hvw
  have hE1 := hts_of (args := args) hE
  obtain ⟨u1, u2, u3⟩ := U q.1 R9 T N hvw
  have hin : ∀ w ∈ u_ws R9 T N, w ∈ lw_tbl.filter okW := fun w h => List.mem_filter.mpr (u1 w h)
  have hts : ∀ w ∈ lw_tbl.filter okW, w.before args s = true := fun w h => hE1 w (List.mem_filter.mp h).1 (List.mem_filter.mp h).2
  have hws : (wsOf base ca σ)[k0]? = some (base + k0, .inr (q.1, (List.range q.2.1).map (fval base σ (k0 + 1) q))) := by rw [wsOf_get, hq, ← ent_obj hlt]; rfl
  obtain ⟨v1, v2, v3⟩ := hv R9 T N hvw
  obtain ⟨ty, t1, t2, t3, t4⟩ := u2 b hb
  obtain ⟨v4, v5⟩ := v3 ty t1 t2 t3 t4
  have hset : entE base ca σ' (k0 + 1) q' = .inr (q.1, ((List.range q.2.1).map (fval base σ (k0 + 1) q)).set b (cv base sx v)) := by
    rw [ent_obj (by rw [hK.1]; exact hlt), hK.1, map_set (by rw [hN]; exact hb) hK.2.1 v1 v2]
  have tyf : ∃ ty0 : Nat → FieldType, ∀ k, k < N → parseFieldDescriptor (T k).2.2.1 = some (ty0 k) := by
    have h9 : ∀ k, ∃ ty, k < N → parseFieldDescriptor (T k).2.2.1 = some ty := fun k => by
      by_cases hk : k < N
      · obtain ⟨ty, h, -⟩ := u2 k hk; exact ⟨ty, fun _ => h⟩
      · exact ⟨.int, fun h => absurd h hk⟩
    obtain ⟨f, hf⟩ := Classical.axiomOfChoice h9
    exact ⟨f, hf⟩
  obtain ⟨ty0, hty0⟩ := tyf
  have kk : ∀ (H1 : Heap) (locs1 : List Loc), va_P (dC, dI) vwCl ((wsOf base ca σ).set k0 (base + k0, .inr (q.1, ((List.range q.2.1).map (fval base σ (k0 + 1) q)).set b (cv base sx v)))) H1 → va_D (fun q => base ≤ q) ((wsOf base ca σ).set k0 (base + k0, .inr (q.1, ((List.range q.2.1).map (fval base σ (k0 + 1) q)).set b (cv base sx v)))) → va_S (fun q => base ≤ q) s.heap H1 locs1 → W p l e R s mi args below meth c H1 locs1 cells slots Q (F0 mi (pc + 3) ls (st.map (cv base sx))) := by
    intro H1 locs1 q1 q2 q3
    rw [← hset] at q1 q2
    exact k1 H1 locs1 cells slots ls hL hn ha (okt (okt hst)) (Wd.set hq hK e1 e2 (e3 w5 (okh hst)) w1 w2 q1 q2) q3 (by rw [e4]; exact h1) (by rw [e4]; exact h2)
  have hlink := hts _ (List.mem_filter.mpr ⟨hw, ho⟩)
  have hlen : b < ((List.range q.2.1).map (fval base σ (k0 + 1) q)).length := by simp [hN, hb]
  rcases pchk_at hp hvw with hfin | ⟨hfin, hinit, hRo⟩
  · exact va_put (C := R9) (T := T) (N := N) (ref := R9) C.1 C.2.1 hts hin ty0 hty0 u3 C.2.2.2.1 w1 w3 w4 hS k0 hws hvw b hb hlink (by rw [hT]; exact fun _ h => h) hfin t1 v4 v5 hlen hd kk
  · exact va_putF (C := R9) (T := T) (N := N) (ref := R9) C.1 C.2.1 hts hin ty0 hty0 u3 C.2.2.2.1 w1 w3 w4 hS k0 hws hvw b hb hlink (by rw [hT]; exact fun _ h => h) hfin (C.2.2.2.2.2.2.1 hinit) (hT.trans hRo) t1 v4 v5 hlen hd kk
theorem get_hput {h : Nat → Nat → Int} {k j : Nat} {v : Int} (hh : ∀ a b, inR (h a b)) (hv : inR v) (a b : Nat) : inR (hput h k j v a b) := by
  unfold hput
  split
  · exact hv
  · exact hh a b
theorem fits_b : ∀ x : Int, x = 0 ∨ x = 1 → narrow .boolean (.int (Int32.ofInt x)) = .int (Int32.ofInt x) ∧ fits .boolean (.int (Int32.ofInt x)) = true := by
  rintro x (rfl | rfl)
  · exact ⟨rfl, rfl⟩
  · exact ⟨rfl, rfl⟩
theorem k_putI (C : CX p l R s mi meth c m) (U : UW) {σ0 : Sg} (hE : Ex base sx σ0 s s.heap) {i a b cc w : Nat} (hf : fchk m i a b cc w = true) (hp : pchk m a b = true) (hd : decode (am_b m) pc = .ok (.putfield i, 3)) {k : Nat} (hk : okd σ k = a) {x : Int} (hc : cc = 0 ∨ (cc = 2 ∧ (x = 0 ∨ x = 1)))
    (k1 : Kt base sx dC dI p l e R s mi args below meth c Q m n0 m0 (pc + 3) (al) (st) (put σ k b x)) : Kt base sx dC dI p l e R s mi args below meth c Q m n0 m0 (pc) (al) (AI x :: AR k :: st) (σ) := by
  obtain ⟨R9, T, N, hvw, hb, hw, ho, hT, hcf⟩ := fchk_at hf
  have ha99 : a ≠ 99 := fun h => by subst h; have : vwCl[99]? = none := rfl; rw [this] at hvw; cases hvw
  obtain ⟨k0, q, rfl, hq, hqa⟩ := okd_at hk ha99
  refine k_put C U hE hf hp hd hq hqa (q' := q) (σ' := put σ (k0 + 1) b x) ⟨rfl, rfl, rfl⟩ (set_same hq).symm (fun i j hi => ?_) (fun h1 h2 => get_hput h1 h2) rfl (fun C9 T9 N9 hv9 => ?_) k1
  · show hput σ.2.1 (k0 + 1) b x (i + 1) j = _
    unfold hput
    rw [if_neg (by omega)]
    rfl
  · rw [hvw] at hv9
    cases hv9
    have hnr : ¬ ftc (T b).2.2.1 = 1 := by rw [hcf]; omega
    subst hqa
    refine ⟨?_, fun j hj => ?_, fun ty h1 h2 h3 h4 => ?_⟩
    · rw [fval_i hvw hnr]
      show Value.int (Int32.ofInt (hput σ.2.1 (k0 + 1) b x (k0 + 1) b)) = _
      unfold hput
      rw [if_pos ⟨rfl, rfl⟩]
      rfl
    · have hg : get (put σ (k0 + 1) b x) (k0 + 1) j = get σ (k0 + 1) j := by rw [get_put, if_neg (fun h => hj h.2)]
      unfold fval
      rw [hg]
    · rcases hc with hc | ⟨hc, hx⟩
      · rw [h3 (hcf.trans hc)]
        exact ⟨rfl, rfl⟩
      · rw [h4 (hcf.trans hc)]
        exact fits_b x hx
theorem k_putR (C : CX p l R s mi meth c m) (U : UW) {σ0 : Sg} (hE : Ex base sx σ0 s s.heap) {i a b cc w : Nat} (hf : fchk m i a b cc w = true) (hp : pchk m a b = true) (hd : decode (am_b m) pc = .ok (.putfield i, 3)) {k : Nat} (hk : okd σ k = a) {j : Nat} (hc : cc = 1)
    (k1 : Kt base sx dC dI p l e R s mi args below meth c Q m n0 m0 (pc + 3) (al) (st) (putr σ k b (j + 1))) : Kt base sx dC dI p l e R s mi args below meth c Q m n0 m0 (pc) (al) (AR (j + 1) :: AR k :: st) (σ) := by
  obtain ⟨R9, T, N, hvw, hb, hw, ho, hT, hcf⟩ := fchk_at hf
  have ha99 : a ≠ 99 := fun h => by subst h; have : vwCl[99]? = none := rfl; rw [this] at hvw; cases hvw
  obtain ⟨k0, q, rfl, hq, hqa⟩ := okd_at hk ha99
  have hkl : k0 < σ.1.length := (List.getElem?_eq_some_iff.mp hq).1
  intro H locs cells slots ls hL hn ha hst hW hS h1 h2
  have hlr : b < q.2.2.length := by
    obtain ⟨ca, tys, w1, w2, w3, w4, w5⟩ := id hW
    obtain ⟨g1, -⟩ := w2 k0 q hq
    rw [← hqa] at hvw
    obtain ⟨g2, g3⟩ := kdOK_N g1 hvw
    rcases g1.2 with h | h | h | h <;> omega
  refine k_put C U hE hf hp hd hq hqa (q' := (q.1, q.2.1, q.2.2.set b (j + 1))) (σ' := putr σ (k0 + 1) b (j + 1)) ⟨rfl, rfl, by simp⟩ ?_ (fun i j hi => rfl) (fun h1 h2 => h1) rfl (fun C9 T9 N9 hv9 => ?_) k1 H locs cells slots ls hL hn ha hst hW hS h1 h2
  · show σ.1.modify k0 _ = _
    apply List.ext_getElem?
    intro i
    by_cases e : i = k0
    · subst e
      rw [List.getElem?_modify, List.getElem?_set_self hkl, hq]
      simp
    · rw [List.getElem?_modify, List.getElem?_set_ne (Ne.symm e)]
      simp [Ne.symm e]
  · rw [hvw] at hv9
    cases hv9
    subst hqa
    refine ⟨?_, fun j9 hj9 => ?_, fun ty h1 h2 h3 h4 => (h2 (hcf.trans hc)).1 _ rfl⟩
    · rw [fval_r (q := (q.1, q.2.1, q.2.2.set b (j + 1))) hvw (hcf.trans hc)]
      show cr base ((q.2.2.set b (j + 1)).getD b 0) = _
      rw [List.getD_eq_getElem?_getD, List.getElem?_set_self hlr]
      rfl
    · unfold fval
      show (match vwCl[q.1]? with
        | some (_, T, _) => if ftc (T j9).2.2.1 = 1 then cr base ((q.2.2.set b (j + 1)).getD j9 0) else Value.int (Int32.ofInt (get σ (k0 + 1) j9))
        | none => Value.null) = _
      rw [hvw]
      rw [show (q.2.2.set b (j + 1)).getD j9 0 = q.2.2.getD j9 0 by
        rw [List.getD_eq_getElem?_getD, List.getD_eq_getElem?_getD, List.getElem?_set_ne (Ne.symm hj9)]]
end ROWS

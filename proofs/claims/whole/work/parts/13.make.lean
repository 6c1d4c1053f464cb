/-! the rows that make things, and the library's members -/
section ROWS
variable {base : Nat} {sx : Nat → Nat} {dC : Nat → ClassId} {dI : Nat → Nat → Nat} {p : Program} {l : Launch} {e : Env} {R : Room} {s : State} {mi : MethodId} {args : Array Value} {below : List Frame} {meth : Method} {c : Code} {Q : State → Prop} {m n0 m0 pc : Nat} {al st : List AV} {σ : Sg}
theorem upd_putQ {k j r : Nat} {q : AKd} {ca : Nat → ClassId} {σ' : Sg} (h : q.1 = 23 ∨ q.1 = 24) (hj : j < q.2.2.length) : entE base ca σ' k (q.1, q.2.1, q.2.2.set j (r + 1)) = .inl (ca k, q.2.1, .inr (.inr (.inr (.inr (va_up (fun j => co base (q.2.2.getD j 0)) j (some (base + r))))))) := by
  rw [ent_r (q := (q.1, q.2.1, q.2.2.set j (r + 1))) h]
  congr 7
  funext j9
  by_cases e : j9 = j
  · subst e
    rw [va_up_self, List.getD_eq_getElem?_getD, List.getElem?_set_self hj]
    rfl
  · rw [va_up_ne _ _ e, List.getD_eq_getElem?_getD, List.getD_eq_getElem?_getD, List.getElem?_set_ne (Ne.symm e)]
theorem putr_set {k0 j r : Nat} {q : AKd} (hq : σ.1[k0]? = some q) : (putr σ (k0 + 1) j r).1 = σ.1.set k0 (q.1, q.2.1, q.2.2.set j r) := by
  have hkl : k0 < σ.1.length := (List.getElem?_eq_some_iff.mp hq).1
  show σ.1.modify k0 _ = _
  apply List.ext_getElem?
  intro i
  by_cases e : i = k0
  · subst e
    rw [List.getElem?_modify, List.getElem?_set_self hkl, hq]
    simp
  · rw [List.getElem?_modify, List.getElem?_set_ne (Ne.symm e)]
    simp [Ne.symm e]
theorem k_aastore (C : CX p l R s mi meth c m) (hd : decode (am_b m) pc = .ok (.aastore, 1)) {k j : Nat} {i : Int} (hk : okd σ k = 23) (hj : okd σ (j + 1) = 9) (h0 : 0 ≤ i) (hi : i < oln σ k) (k1 : Kt base sx dC dI p l e R s mi args below meth c Q m n0 m0 (pc + 1) (al) (st) (putr σ k i.toNat (j + 1))) : Kt base sx dC dI p l e R s mi args below meth c Q m n0 m0 (pc) (al) (AR (j + 1) :: AI i :: AR k :: st) (σ) := by
  intro H locs cells slots ls hL hn ha hst hW hS h1 h2
  obtain ⟨k0, q, rfl, hq, hqa⟩ := okd_at hk (by omega)
  obtain ⟨j0, qj, ej, hqj, hqja⟩ := okd_at hj (by omega)
  cases ej
  obtain ⟨ca, tys, w1, w2, w3, w4, w5⟩ := id hW
  obtain ⟨g1, g2⟩ := w2 k0 q hq
  obtain ⟨t0, ht⟩ := g2 (by omega)
  rw [hqa] at ht
  have hir : inR i := okh (okt hst)
  rw [oln_at hq] at hi
  have hlen : i.toNat < q.2.2.length := by
    rcases g1.2 with h | h | h | h <;> omega
  refine va_astq (r := (RX9, TX9, 3)) C.1 C.2.1 w1 w3 w4 hS k0 t0 j 9 (ws_at hq (ent_r (Or.inl hqa))) ht (ws_at (e9 := .inr (9, _)) hqj (by rw [ent_obj (by omega), hqja])) rfl (ofI_vp hir h0 hi) hd (fun H1 locs1 q1 q2 q3 => ?_)
  rw [toI_cl hir, ← upd_putQ (ca := ca) (k := k0 + 1) (σ' := putr σ (k0 + 1) i.toNat (j + 1)) (Or.inl hqa) hlen] at q1 q2
  exact k1 H1 locs1 cells slots ls hL hn ha (okt (okt (okt hst))) (Wd.set (q' := (q.1, q.2.1, q.2.2.set i.toNat (j + 1))) hq ⟨rfl, rfl, by simp⟩ (putr_set hq) (fun a b hab => rfl) w5 w1 w2 q1 q2) q3 h1 h2
theorem wsOf_D {ca : Nat → ClassId} : va_D (fun q => base ≤ q) (wsOf base ca σ) := by
  refine ⟨fun i j x y hi hj hxy => ?_, fun k x hx => ?_⟩
  · rw [wsOf_get] at hi hj
    cases hq : σ.1[i]? with
    | none => rw [hq] at hi; cases hi
    | some q =>
      cases hq2 : σ.1[j]? with
      | none => rw [hq2] at hj; cases hj
      | some q2 =>
        rw [hq] at hi
        rw [hq2] at hj
        cases hi
        cases hj
        have : base + i = base + j := hxy
        omega
  · rw [wsOf_get] at hx
    cases hq : σ.1[k]? with
    | none => rw [hq] at hx; cases hx
    | some q =>
      rw [hq] at hx
      cases hx
      show base ≤ base + k
      omega
/-- the world behind a new cell -/
theorem Wd.push {σ σ' : Sg} {s : State} {H H1 : Heap} {q : AKd} {cA : ClassId} {ca : Nat → ClassId} {tys tys' : List (ClassId × FieldType)} (w1 : va_K (dC, dI) vwCl tys' s) (hsub : ∀ (t : Nat) (x : ClassId × FieldType), tys[t]? = some x → tys'[t]? = some x) (w2 : ∀ (i : Nat) (q : AKd), σ.1[i]? = some q → kdOK q ∧ (20 ≤ q.1 → ∃ t0 : Nat, tys[t0]? = some (ca (i + 1), aty q.1)))
    (w3 : va_P (dC, dI) vwCl (wsOf base ca σ) H) (hkeep : ∀ i, i < σ.1.length → H1[base + i]? = H[base + i]?) (hnew : va_at (dC, dI) vwCl (base + σ.1.length, entE base (va_up ca (σ.1.length + 1) cA) σ' (σ.1.length + 1) q) H1)
    (h1 : σ'.1 = σ.1 ++ [q]) (h2 : ∀ k j, k ≤ σ.1.length → get σ' k j = get σ k j) (hr : ∀ k j, inR (get σ' k j)) (hk : kdOK q) (ht : 20 ≤ q.1 → ∃ t0 : Nat, tys'[t0]? = some (cA, aty q.1)) :
    (∀ (i : Nat) (q : AKd), σ'.1[i]? = some q → kdOK q ∧ (20 ≤ q.1 → ∃ t0 : Nat, tys'[t0]? = some (va_up ca (σ.1.length + 1) cA (i + 1), aty q.1))) ∧ va_P (dC, dI) vwCl (wsOf base (va_up ca (σ.1.length + 1) cA) σ') H1 := by
  have hP : va_P (dC, dI) vwCl (wsOf base ca σ) H1 := w3.kept (fun k x hx => by
    have hx2 := hx
    rw [wsOf_get] at hx2
    cases hq : σ.1[k]? with
    | none => rw [hq] at hx2; cases hx2
    | some q =>
      rw [hq] at hx2
      cases hx2
      exact hkeep k (List.getElem?_eq_some_iff.mp hq).1)
  refine ⟨fun i z hz => ?_, ?_⟩
  · rw [h1] at hz
    by_cases e : i < σ.1.length
    · rw [List.getElem?_append_left e] at hz
      obtain ⟨g1, g2⟩ := w2 i z hz
      refine ⟨g1, fun h => ?_⟩
      obtain ⟨t0, h9⟩ := g2 h
      exact ⟨t0, by rw [va_up_ne _ _ (by omega)]; exact hsub _ _ h9⟩
    · rw [List.getElem?_append_right (by omega)] at hz
      have : i - σ.1.length < 1 := (List.getElem?_eq_some_iff.mp hz).1
      have ei : i = σ.1.length := by omega
      subst ei
      rw [Nat.sub_self] at hz
      cases hz
      exact ⟨hk, fun h => by rw [va_up_self]; exact ht h⟩
  · rw [wsOf_push h1 h2]
    refine hP.app (fun k x hx => ?_)
    have : k < 1 := (List.getElem?_eq_some_iff.mp hx).1
    have ek : k = 0 := by omega
    subst ek
    cases hx
    exact hnew
theorem hsize {H : Heap} {ca : Nat → ClassId} (w3 : va_P (dC, dI) vwCl (wsOf base ca σ) H) (hb : base ≤ H.size) : base + σ.1.length ≤ H.size := by
  by_cases h : σ.1.length = 0
  · omega
  · have hlt : σ.1.length - 1 < σ.1.length := by omega
    obtain ⟨q, hq⟩ : ∃ q, σ.1[σ.1.length - 1]? = some q := ⟨_, List.getElem?_eq_getElem hlt⟩
    have h1 := (w3 (σ.1.length - 1) _ (ws_at hq rfl)).lt
    have h2 : base + (σ.1.length - 1) < H.size := h1
    omega
theorem get_mk {q : AKd} {n k j : Nat} : get (mk σ q n) k j = if k = σ.1.length + 1 then 0 else get σ k j := rfl
theorem inR_mk {q : AKd} {n : Nat} (h : ∀ k j, inR (get σ k j)) : ∀ k j, inR (get (mk σ q n) k j) := by
  intro k j
  rw [get_mk]
  split
  · exact inR_0
  · exact h k j
theorem hheap {H : Heap} {locs : List Loc} {cells : Nat} {ca : Nat → ClassId} (hf : fresh σ = true) (hB : base ≤ s.heap.size ∧ s.heap.size ≤ base + n0) (w3 : va_P (dC, dI) vwCl (wsOf base ca σ) H) (hS : va_S (fun q => base ≤ q) s.heap H locs) (h1 : cells + n0 = σ.2.2.1) (hz : H.size ≤ s.heap.size + cells) : H.size = base + σ.1.length := by
  have h2 := hsize w3 (Nat.le_trans hB.1 hS.1)
  have h3 : σ.1.length = σ.2.2.1 := by unfold fresh at hf; simpa using hf
  omega
theorem k_newarray (C : CX p l R s mi meth c m) {σ0 : Sg} (hE : Ex base sx σ0 s s.heap) (hB : base ≤ s.heap.size ∧ s.heap.size ≤ base + n0) {t : ArrayType} (hd : decode (am_b m) pc = .ok (.newarray t, 2)) {n : Int} (hn0 : 0 ≤ n) (hn1 : n ≤ 100000) (hf : fresh σ = true) (ht : 20 ≤ akind t)
    (hc : (mk σ (akind t, n.toNat, []) n.toNat).2.2.1 ≤ n0 + R.cells) (hs : (mk σ (akind t, n.toNat, []) n.toNat).2.2.2.1 ≤ m0 + R.slots) (k1 : Kt base sx dC dI p l e R s mi args below meth c Q m n0 m0 (pc + 2) (al) (AR (σ.1.length + 1) :: st) (mk σ (akind t, n.toNat, []) n.toNat)) : Kt base sx dC dI p l e R s mi args below meth c Q m n0 m0 (pc) (al) (AI n :: st) (σ) := by
  intro H locs cells slots ls hL hn ha hst hW hS h1 h2
  refine W.size (fun hz => ?_)
  obtain ⟨ca, tys, w1, w2, w3, w4, w5⟩ := id hW
  have hH := hheap hf hB w3 hS h1 hz
  have hnr : inR n := okh hst
  have c1 : σ.2.2.1 + 1 ≤ n0 + R.cells := hc
  have c2 : σ.2.2.2.1 + n.toNat ≤ m0 + R.slots := hs
  have hta : (newarray.typeOf t = .int ∧ akind t = 20) ∨ (newarray.typeOf t = .boolean ∧ akind t = 21) ∨ (newarray.typeOf t = .long ∧ akind t = 22) := by
    cases t <;> first | (exact absurd ht (by decide)) | (exact Or.inl ⟨rfl, rfl⟩) | (exact Or.inr (Or.inl ⟨rfl, rfl⟩)) | (exact Or.inr (Or.inr ⟨rfl, rfl⟩))
  have hcb : componentBytes (newarray.typeOf t) ≤ 8 := by cases t <;> decide
  have har : (Cond.arrayClass (newarray.typeOf t)).before args s = true := by
    refine word_at (State.WarmedH.refl s) (Or.inr ⟨_, rfl⟩) (hE.2.1 _ ?_)
    rcases hta with h | h | h
    · exact Or.inl h.1
    · exact Or.inr (Or.inl h.1)
    · exact Or.inr (Or.inr h.1)
  refine va_newaK (N := n.toNat) C.1 C.2.1 har rfl hd rfl ?_ (toI_cl hnr) ?_ (by omega) (by omega) hH (fun H1 cA e1 z1 o1 hAr hNm => ?_)
  · intro h9
    have := (ofI_lt hnr inR_0).mp h9
    omega
  · have h9 : n.toNat * componentBytes (newarray.typeOf t) ≤ 100000 * 8 := Nat.mul_le_mul (by omega) hcb
    omega
  · have hty : newarray.typeOf t = aty (akind t) := by
      rcases hta with h | h | h <;> rw [h.1, h.2] <;> rfl
    have hK' : va_K (dC, dI) vwCl (tys ++ [(cA, newarray.typeOf t)]) s := by
      refine ⟨w1.1, fun k x hx => ?_⟩
      by_cases hl : k < tys.length
      · rw [List.getElem?_append_left hl] at hx
        exact w1.2 k x hx
      · rw [List.getElem?_append_right (by omega)] at hx
        have hz9 : k - tys.length < 1 := (List.getElem?_eq_some_iff.mp hx).1
        rw [show k - tys.length = 0 by omega] at hx
        cases hx
        exact ⟨hAr, by rcases hta with h | h | h <;> rw [h.1] at hNm ⊢ <;> exact hNm⟩
    have hW' : Wd base dC dI (mk σ (akind t, n.toNat, []) n.toNat) s H1 := by
      have hpu := Wd.push (base := base) (σ := σ) (σ' := mk σ (akind t, n.toNat, []) n.toNat) (H := H) (H1 := H1) (cA := cA) (q := (akind t, n.toNat, [])) hK' (fun k x hx => by rw [List.getElem?_append_left (List.getElem?_eq_some_iff.mp hx).1]; exact hx) w2 w3 (fun x hx => o1 (base + x) (by omega)) ?_ rfl (fun k j hk => by rw [get_mk, if_neg (by omega)]) (inR_mk w5) ⟨Or.inr ⟨ht, by rcases hta with h | h | h <;> omega⟩, by rcases hta with h | h | h <;> omega⟩ (fun _ => ⟨tys.length, by rw [List.getElem?_append_right (Nat.le_refl _), Nat.sub_self, hty]; rfl⟩)
      · exact ⟨_, _, hK', hpu.1, hpu.2, wsOf_D, inR_mk w5⟩
      rcases hta with h | h | h
      · rw [ent_i (q := (akind t, n.toNat, [])) (Or.inl h.2)]
        show H1[base + σ.1.length]? = some (vp_cell _ _)
        rw [e1, vp_cell_i, h.1]
        congr 2
        · rw [va_up_self]
        · funext j; rw [get_mk, if_pos rfl]; rfl
      · rw [ent_i (q := (akind t, n.toNat, [])) (Or.inr h.2)]
        show H1[base + σ.1.length]? = some (vp_cell _ _)
        rw [e1, vp_cell_i, h.1]
        congr 2
        · rw [va_up_self]
        · funext j; rw [get_mk, if_pos rfl]; rfl
      · rw [ent_l (q := (akind t, n.toNat, [])) h.2]
        show H1[base + σ.1.length]? = some (vp_cell _ _)
        rw [e1, vp_cell_l, h.1]
        congr 2
        · rw [va_up_self]
        · funext j; rw [get_mk, if_pos rfl]; rfl
    have hS' : va_S (fun q => base ≤ q) s.heap H1 locs := ⟨Nat.le_trans hS.1 (by omega), fun x q1 q2 => (o1 x (by have := hS.1; omega)).trans (hS.2.1 x q1 q2), hS.2.2⟩
    exact k1 H1 locs (cells + 1) (slots + n.toNat) ls hL hn ha (okc trivial (okt hst)) hW' hS' (show cells + 1 + n0 = σ.2.2.1 + 1 by omega) (show slots + n.toNat + m0 = σ.2.2.2.1 + n.toNat by omega)
theorem k_anewarray (C : CX p l R s mi meth c m) {σ0 : Sg} (hE : Ex base sx σ0 s s.heap) (hB : base ≤ s.heap.size ∧ s.heap.size ≤ base + n0) {ix : Nat} (hd : decode (am_b m) pc = .ok (.anewarray ix, 3)) (hw : Cond.classLink (am_own m) ix RX9 ∈ lw_tbl ∧ okW (Cond.classLink (am_own m) ix RX9) = true) {n : Int} (hn0 : 0 ≤ n) (hn1 : n ≤ 100000) (hf : fresh σ = true)
    (hc : (mk σ (23, n.toNat, List.replicate n.toNat 0) n.toNat).2.2.1 ≤ n0 + R.cells) (hs : (mk σ (23, n.toNat, List.replicate n.toNat 0) n.toNat).2.2.2.1 ≤ m0 + R.slots) (k1 : Kt base sx dC dI p l e R s mi args below meth c Q m n0 m0 (pc + 3) (al) (AR (σ.1.length + 1) :: st) (mk σ (23, n.toNat, List.replicate n.toNat 0) n.toNat)) : Kt base sx dC dI p l e R s mi args below meth c Q m n0 m0 (pc) (al) (AI n :: st) (σ) := by
  intro H locs cells slots ls hL hn ha hst hW hS h1 h2
  refine W.size (fun hz => ?_)
  obtain ⟨ca, tys, w1, w2, w3, w4, w5⟩ := id hW
  have hH := hheap hf hB w3 hS h1 hz
  have hnr : inR n := okh hst
  have c1 : σ.2.2.1 + 1 ≤ n0 + R.cells := hc
  have c2 : σ.2.2.2.1 + n.toNat ≤ m0 + R.slots := hs
  refine W.anew C.1 C.2.1 C.2.2.2.1 (hts_of hE _ hw.1 hw.2) (C := RX9) (va_AO.use hE.2.2.1) rfl hd rfl ?_ (by rw [toI_cl hnr]; omega) (by omega) (by rw [toI_cl hnr]; omega) (fun cA kA comp f1 f2 f3 f4 => ?_)
  · intro h9
    have := (ofI_lt hnr inR_0).mp h9
    omega
  · rw [toI_cl hnr]
    generalize hH1 : H.push ({ cls := cA, slots := Array.replicate n.toNat .null, vm := .none } : Cell) = H1
    have z1 : H1.size = H.size + 1 := by rw [← hH1, Array.size_push]
    have e1 : H1[H.size]? = some (arrV cA n.toNat (fun _ => .null)) := by rw [← hH1, Array.getElem?_push_size, ← arrV_new]
    have o1 : ∀ q : Nat, q < H.size → H1[q]? = H[q]? := fun q hq => by rw [← hH1, Array.getElem?_push, if_neg (Nat.ne_of_lt hq)]
    have hAr : ArrOfT s cA (.object RX9) := fun N z => ⟨(fun k h => by cases h), kA, f2, comp, f3⟩
    have hK' : va_K (dC, dI) vwCl (tys ++ [(cA, .object RX9)]) s := by
      refine ⟨w1.1, fun k x hx => ?_⟩
      by_cases hl : k < tys.length
      · rw [List.getElem?_append_left hl] at hx
        exact w1.2 k x hx
      · rw [List.getElem?_append_right (by omega)] at hx
        have hz9 : k - tys.length < 1 := (List.getElem?_eq_some_iff.mp hx).1
        rw [show k - tys.length = 0 by omega] at hx
        cases hx
        exact ⟨hAr, kA, comp, f2, f3, f4, f1⟩
    have hW' : Wd base dC dI (mk σ (23, n.toNat, List.replicate n.toNat 0) n.toNat) s H1 := by
      have hpu := Wd.push (base := base) (σ := σ) (σ' := mk σ (23, n.toNat, List.replicate n.toNat 0) n.toNat) (H := H) (H1 := H1) (cA := cA) (q := (23, n.toNat, List.replicate n.toNat 0)) hK' (fun k x hx => by rw [List.getElem?_append_left (List.getElem?_eq_some_iff.mp hx).1]; exact hx) w2 w3 (fun x hx => o1 (base + x) (by omega)) ?_ rfl (fun k j hk => by rw [get_mk, if_neg (by omega)]) (inR_mk w5) ⟨Or.inr ⟨by omega, by omega⟩, by simp⟩ (fun _ => ⟨tys.length, by rw [List.getElem?_append_right (Nat.le_refl _), Nat.sub_self]; rfl⟩)
      · exact ⟨_, _, hK', hpu.1, hpu.2, wsOf_D, inR_mk w5⟩
      · rw [ent_r (q := (23, n.toNat, List.replicate n.toNat 0)) (Or.inl rfl)]
        show H1[base + σ.1.length]? = some (vp_cell _ _)
        rw [← hH, e1, vp_cell_q, va_up_self]
        congr 2
        funext j
        rw [List.getD_eq_getElem?_getD]
        by_cases hj : j < n.toNat
        · rw [List.getElem?_replicate_of_lt hj]; rfl
        · rw [List.getElem?_eq_none (by simp; omega)]; rfl
    have hS' : va_S (fun q => base ≤ q) s.heap H1 locs := ⟨Nat.le_trans hS.1 (by omega), fun x q1 q2 => (o1 x (by have := hS.1; omega)).trans (hS.2.1 x q1 q2), hS.2.2⟩
    have kk := k1 H1 locs (cells + 1) (slots + n.toNat) ls hL hn ha (okc trivial (okt hst)) hW' hS' (show cells + 1 + n0 = σ.2.2.1 + 1 by omega) (show slots + n.toNat + m0 = σ.2.2.2.1 + n.toNat by omega)
    rw [hH]
    exact kk
theorem ftc_le (d : String) : ftc d ≤ 2 := by
  unfold ftc
  split
  · omega
  · split <;> omega
theorem k_new (C : CX p l R s mi meth c m) (U : UW) {σ0 : Sg} (hE : Ex base sx σ0 s s.heap) (hB : base ≤ s.heap.size ∧ s.heap.size ≤ base + n0) {ix a b : Nat} {R9 : String} {T : u_T} (hd : decode (am_b m) pc = .ok (.new ix, 3)) (hv : vwCl[a]? = some (R9, T, b)) (hw1 : Cond.classLink (am_own m) ix R9 ∈ lw_tbl ∧ okW (Cond.classLink (am_own m) ix R9) = true) (hw2 : Cond.instantiable R9 b ∈ lw_tbl ∧ okW (Cond.instantiable R9 b) = true) (hw3 : Cond.initialized R9 ∈ lw_tbl ∧ okW (Cond.initialized R9) = true) (hf : fresh σ = true)
    (hc : (mk σ (a, b, List.replicate b 0) b).2.2.1 ≤ n0 + R.cells) (hs : (mk σ (a, b, List.replicate b 0) b).2.2.2.1 ≤ m0 + R.slots) (k1 : Kt base sx dC dI p l e R s mi args below meth c Q m n0 m0 (pc + 3) (al) (AR (σ.1.length + 1) :: st) (mk σ (a, b, List.replicate b 0) b)) : Kt base sx dC dI p l e R s mi args below meth c Q m n0 m0 (pc) (al) (st) (σ) := by
  intro H locs cells slots ls hL hn ha hst hW hS h1 h2
  refine W.size (fun hz => ?_)
  obtain ⟨ca, tys, w1, w2, w3, w4, w5⟩ := id hW
  have hH := hheap hf hB w3 hS h1 hz
  have c1 : σ.2.2.1 + 1 ≤ n0 + R.cells := hc
  have c2 : σ.2.2.2.1 + b ≤ m0 + R.slots := hs
  have hE1 := hts_of (args := args) hE
  obtain ⟨u1, u2, u3⟩ := U a R9 T b hv
  have ha13 : a < 13 := (List.getElem?_eq_some_iff.mp hv).1
  have hKn := w1.1 a _ hv
  refine W.newcK C.1 C.2.1 C.2.2.2.1 (hE1 _ hw1.1 hw1.2) (hE1 _ hw2.1 hw2.2) (hE1 _ hw3.1 hw3.2) rfl hd (by omega) (by omega) hKn.2.1 hH (fun H1 kC hkC e1 z1 o1 => ?_)
  have hin : ∀ w ∈ u_ws R9 T b, w ∈ lw_tbl.filter okW := fun w h => List.mem_filter.mpr (u1 w h)
  have hts : ∀ w ∈ lw_tbl.filter okW, w.before args s = true := fun w h => hE1 w (List.mem_filter.mp h).1 (List.mem_filter.mp h).2
  have tyf : ∃ ty0 : Nat → FieldType, ∀ k, k < b → parseFieldDescriptor (T k).2.2.1 = some (ty0 k) := by
    have h9 : ∀ k, ∃ ty, k < b → parseFieldDescriptor (T k).2.2.1 = some ty := fun k => by
      by_cases hk : k < b
      · obtain ⟨ty, h, -⟩ := u2 k hk; exact ⟨ty, fun _ => h⟩
      · exact ⟨.int, fun h => absurd h hk⟩
    obtain ⟨f, hf⟩ := Classical.axiomOfChoice h9
    exact ⟨f, hf⟩
  obtain ⟨ty0, hty0⟩ := tyf
  have hborn := u_born ty0 hts hin hKn hkC e1 hty0
  have hW' : Wd base dC dI (mk σ (a, b, List.replicate b 0) b) s H1 := by
    have hpu := Wd.push (base := base) (σ := σ) (σ' := mk σ (a, b, List.replicate b 0) b) (H := H) (H1 := H1) (cA := 0) (q := (a, b, List.replicate b 0)) w1 (fun k x hx => hx) w2 w3 (fun x hx => o1 (base + x) (by omega)) ?_ rfl (fun k j hk => by rw [get_mk, if_neg (by omega)]) (inR_mk w5) ⟨Or.inl ⟨by show a < 20; omega, _, _, hv⟩, by simp⟩ (fun h => absurd (show 20 ≤ a from h) (by omega))
    · exact ⟨_, _, w1, hpu.1, hpu.2, wsOf_D, inR_mk w5⟩
    · rw [ent_obj (show (a, b, List.replicate b 0).1 < 20 by show a < 20; omega)]
      refine ⟨_, hv, hborn.to (fun j hj => ?_)⟩
      show defaultValue (ty0 j) = ((List.range b).map (fval base (mk σ (a, b, List.replicate b 0) b) (σ.1.length + 1) (a, b, List.replicate b 0))).getD j .null
      rw [List.getD_eq_getElem?_getD, List.getElem?_map, List.getElem?_range hj]
      obtain ⟨ty, t1, t2, t3, t4⟩ := u2 j hj
      have hty : ty0 j = ty := Option.some.inj ((hty0 j hj).symm.trans t1)
      rw [hty]
      show defaultValue ty = fval base (mk σ (a, b, List.replicate b 0) b) (σ.1.length + 1) (a, b, List.replicate b 0) j
      by_cases e1 : ftc (T j).2.2.1 = 1
      · rw [fval_r (q := (a, b, List.replicate b 0)) hv e1, (t2 e1).2]
        show Value.null = cr base ((List.replicate b 0).getD j 0)
        rw [List.getD_eq_getElem?_getD, List.getElem?_replicate_of_lt hj]
        rfl
      · rw [fval_i (q := (a, b, List.replicate b 0)) hv e1, get_mk, if_pos rfl]
        by_cases e0 : ftc (T j).2.2.1 = 0
        · rw [t3 e0]; rfl
        · have e2 : ftc (T j).2.2.1 = 2 := by
            have := ftc_le (T j).2.2.1
            omega
          rw [t4 e2]; rfl
  have hS' : va_S (fun q => base ≤ q) s.heap H1 locs := ⟨Nat.le_trans hS.1 (by omega), fun x q1 q2 => (o1 x (by have := hS.1; omega)).trans (hS.2.1 x q1 q2), hS.2.2⟩
  exact k1 H1 locs (cells + 1) (slots + b) ls hL hn ha (okc trivial hst) hW' hS' (show cells + 1 + n0 = σ.2.2.1 + 1 by omega) (show slots + b + m0 = σ.2.2.2.1 + b by omega)
theorem mks_1 {n : Nat} : ∀ j : Nat, (mks σ n j).1 = σ.1 ++ List.replicate j (20, n, []) ∧ (mks σ n j).2.2.1 = σ.2.2.1 + j ∧ (mks σ n j).2.2.2.1 = σ.2.2.2.1 + j * n
  | 0 => ⟨by simp [mks], rfl, by simp [mks]⟩
  | j + 1 => by
    obtain ⟨h1, h2, h3⟩ := mks_1 (n := n) j
    refine ⟨?_, ?_, ?_⟩
    · show (mks σ n j).1 ++ [(20, n, [])] = _
      rw [h1, List.append_assoc, List.replicate_succ']
    · show (mks σ n j).2.2.1 + 1 = _
      rw [h2]; omega
    · show (mks σ n j).2.2.2.1 + n = _
      rw [h3, Nat.succ_mul]; omega
theorem k_multi (C : CX p l R s mi meth c m) {σ0 : Sg} (hE : Ex base sx σ0 s s.heap) (hB : base ≤ s.heap.size ∧ s.heap.size ≤ base + n0) {ix : Nat} (hd : decode (am_b m) pc = .ok (.multianewarray ix 2, 4)) (hw : Cond.classLink (am_own m) ix "[[I" ∈ lw_tbl ∧ okW (Cond.classLink (am_own m) ix "[[I") = true) {n k : Int} (hn0 : 0 ≤ n) (hn1 : n ≤ 1000) (hk0 : 0 ≤ k) (hk1 : k ≤ 1000) (hf : fresh σ = true)
    (hc : (mks (mk σ (24, n.toNat, (List.range n.toNat).map (fun i => σ.1.length + 2 + i)) n.toNat) k.toNat n.toNat).2.2.1 ≤ n0 + R.cells) (hs : (mks (mk σ (24, n.toNat, (List.range n.toNat).map (fun i => σ.1.length + 2 + i)) n.toNat) k.toNat n.toNat).2.2.2.1 ≤ m0 + R.slots)
    (k1 : Kt base sx dC dI p l e R s mi args below meth c Q m n0 m0 (pc + 4) (al) (AR (σ.1.length + 1) :: st) (mks (mk σ (24, n.toNat, (List.range n.toNat).map (fun i => σ.1.length + 2 + i)) n.toNat) k.toNat n.toNat)) : Kt base sx dC dI p l e R s mi args below meth c Q m n0 m0 (pc) (al) (AI k :: AI n :: st) (σ) := by
  intro H locs cells slots ls hL hn ha hst hW hS h1 h2
  obtain ⟨ca, tys, w1, w2, w3, w4, w5⟩ := id hW
  have hkr : inR k := okh hst
  have hnr : inR n := okh (okt hst)
  generalize hN : n.toNat = N at hc hs k1
  generalize hM : k.toNat = M at hc hs k1
  generalize hq24 : ((24, N, (List.range N).map (fun i => σ.1.length + 2 + i)) : AKd) = q24 at hc hs k1
  rw [(mks_1 (σ := mk σ q24 N) (n := M) N).2.1] at hc
  rw [(mks_1 (σ := mk σ q24 N) (n := M) N).2.2] at hs
  have hc' : σ.2.2.1 + 1 + N ≤ n0 + R.cells := hc
  have hs' : σ.2.2.2.1 + N + N * M ≤ m0 + R.slots := hs
  intro T hT Xs
  have hz : H.size ≤ s.heap.size + cells := hT ▸ Xs.heapSize
  have hH := hheap hf hB w3 hS h1 hz
  have har : (Cond.arrayClass .int).before args s = true := word_at (State.WarmedH.refl s) (Or.inr ⟨_, rfl⟩) (hE.2.1 _ (Or.inl rfl))
  have hov : (Cond.arrayOver (.array .int)).before args s = true := hE.2.2.2.1
  obtain ⟨vm₁, cA, comp, -, fA, fC, hO, hI, X', step⟩ := Jvm.Stand.multianewarray2F Xs C.1 C.2.2.2.1 (ty := .int) (hts_of hE _ hw.1 hw.2) hov har (g := F0 mi pc ls (.int (Int32.ofInt k) :: .int (Int32.ofInt n) :: st.map (cv base sx))) rfl (by rw [C.2.1]; exact hd) rfl
    (fun h9 => by have := (ofI_lt hnr inR_0).mp h9; omega) (fun h9 => by have := (ofI_lt hkr inR_0).mp h9; omega) (by rw [toI_cl hnr]; omega) (by rw [toI_cl hkr]; show _ * 4 ≤ _; omega) (by rw [toI_cl hkr]; omega) rfl rfl (by rw [toI_cl hnr, hN]; omega) (by rw [toI_cl hnr, toI_cl hkr, hN, hM]; omega)
  rw [toI_cl hnr, toI_cl hkr, hN, hM] at X' step
  generalize hF : Jvm.Free.Multi.fill (T.setVm vm₁) cA comp N M (defaultValue .int) N = F at X' step
  have hTh : (T.setVm vm₁).heap = H := hT
  obtain ⟨f1, f2, -, -⟩ := Jvm.Free.Multi.fill_facts (T.setVm vm₁) cA comp N M (defaultValue .int) N
  rw [hF, hTh] at f1 f2
  have hold : ∀ x : Nat, x < H.size → F.heap[x]? = H[x]? := fun x hx => by
    have := Jvm.Free.Multi.fill_old (T.setVm vm₁) cA comp N M (defaultValue .int) (a := x) (by rw [hTh]; exact hx) N
    rw [hF, hTh] at this
    exact this
  have hrow : ∀ j : Nat, j < N → F.heap[H.size + 1 + j]? = some (arrV comp M (fun _ => .int 0)) := fun j hj => by
    have := Jvm.Free.Multi.fill_inner (T.setVm vm₁) cA comp N M (defaultValue .int) N j hj
    rw [hF, hTh] at this
    rw [this, ← arrV_new]
    rfl
  have hout : ∀ i : Nat, Jvm.Free.Multi.outerC cA N H.size i = arrV cA N (fun j => va_rf (if j < i then some (H.size + 1 + j) else none)) := by
    intro i
    induction i with
    | zero =>
      show ({ cls := cA, slots := Array.replicate N .null, vm := .none } : Cell) = _
      rw [arrV_new]
      refine congrArg (arrV cA N) (funext fun j => ?_)
      simp [va_rf]
    | succ i ih =>
      show (Jvm.Free.Multi.outerC cA N H.size i).setSlot i (.ref (H.size + 1 + i)) = _
      rw [ih, arrV_store]
      refine congrArg (arrV cA N) (funext fun j => ?_)
      by_cases e : j = i
      · subst e
        simp [updV, va_rf]
      · by_cases h : j < i
        · simp [updV, e, h, Nat.lt_succ_of_lt h]
        · simp [updV, e, h, show ¬ j < i + 1 by omega]
  have hAr : ArrOfT s cA (.array .int) := by
    obtain ⟨⟨-, kA, q1, comp', q2⟩, -⟩ := hO 0 0 0
    exact fun n z => ⟨fun k h => (by cases h), kA, q1, comp', q2⟩
  have hK' : va_K (dC, dI) vwCl (tys ++ [(cA, .array .int)]) s := by
    refine ⟨w1.1, fun k x hx => ?_⟩
    by_cases hl : k < tys.length
    · rw [List.getElem?_append_left hl] at hx
      exact w1.2 k x hx
    · rw [List.getElem?_append_right (by omega)] at hx
      have hz9 : k - tys.length < 1 := (List.getElem?_eq_some_iff.mp hx).1
      rw [show k - tys.length = 0 by omega] at hx
      cases hx
      exact ⟨hAr, fA⟩
  have hAi : ArrOfT s comp .int := by
    obtain ⟨⟨-, kA, q1, comp', q2⟩, -⟩ := hI 0 .null
    exact fun n z => ⟨fun k h => (by cases h), kA, q1, comp', q2⟩
  have hK2 : va_K (dC, dI) vwCl ((tys ++ [(cA, .array .int)]) ++ [(comp, .int)]) s := by
    refine ⟨w1.1, fun k x hx => ?_⟩
    by_cases hl : k < (tys ++ [(cA, FieldType.array .int)]).length
    · rw [List.getElem?_append_left hl] at hx
      exact hK'.2 k x hx
    · rw [List.getElem?_append_right (by omega)] at hx
      have hz9 : k - (tys ++ [(cA, FieldType.array .int)]).length < 1 := (List.getElem?_eq_some_iff.mp hx).1
      rw [show k - (tys ++ [(cA, FieldType.array .int)]).length = 0 by omega] at hx
      cases hx
      exact ⟨hAi, fC⟩
  have hsub : ∀ (t : Nat) (x : ClassId × FieldType), tys[t]? = some x → ((tys ++ [(cA, .array .int)]) ++ [(comp, .int)])[t]? = some x := fun t x hx => by
    have hl : t < tys.length := (List.getElem?_eq_some_iff.mp hx).1
    rw [List.append_assoc, List.getElem?_append_left hl]
    exact hx
  have hS0 : ∀ j : Nat, j ≤ N → ∃ ca' : Nat → ClassId, (∀ (i : Nat) (q : AKd), (mks (mk σ q24 N) M j).1[i]? = some q → kdOK q ∧ (20 ≤ q.1 → ∃ t0 : Nat, ((tys ++ [(cA, .array .int)]) ++ [(comp, .int)])[t0]? = some (ca' (i + 1), aty q.1))) ∧ va_P (dC, dI) vwCl (wsOf base ca' (mks (mk σ q24 N) M j)) F.heap ∧ ∀ k j9, inR (get (mks (mk σ q24 N) M j) k j9) := by
    intro j
    induction j with
    | zero =>
      intro _
      refine ⟨va_up ca (σ.1.length + 1) cA, ?_⟩
      have hpu := Wd.push (base := base) (σ := σ) (σ' := mk σ q24 N) (H := H) (H1 := F.heap) (cA := cA) (q := q24) hK2 hsub w2 w3 (fun x hx => hold (base + x) (by omega)) ?_ rfl (fun k j hk => by rw [get_mk, if_neg (by omega)]) (inR_mk w5) (by subst hq24; exact ⟨Or.inr ⟨Nat.le_of_ble_eq_true rfl, Nat.le_of_ble_eq_true rfl⟩, by simp⟩) (fun _ => ⟨tys.length, by rw [List.append_assoc, List.getElem?_append_right (Nat.le_refl _), Nat.sub_self]; subst hq24; rfl⟩)
      · exact ⟨hpu.1, hpu.2, inR_mk w5⟩
      · subst hq24
        rw [ent_r (Or.inr rfl)]
        show F.heap[base + σ.1.length]? = some (vp_cell _ _)
        rw [← hH, f2, hout, vp_cell_q, va_up_self]
        congr 2
        funext j
        congr 1
        rw [List.getD_eq_getElem?_getD, List.getElem?_map]
        by_cases hj : j < N
        · rw [if_pos hj, List.getElem?_range hj]
          show some (H.size + 1 + j) = co base (σ.1.length + 2 + j)
          rw [show σ.1.length + 2 + j = (σ.1.length + 1 + j) + 1 by omega]
          show some (H.size + 1 + j) = some (base + (σ.1.length + 1 + j))
          congr 1
          omega
        · rw [if_neg hj, List.getElem?_eq_none (by simp; omega)]
          rfl
    | succ j ih =>
      intro hj
      obtain ⟨ca', v1, v2, v3⟩ := ih (by omega)
      have hlen : (mks (mk σ q24 N) M j).1.length = σ.1.length + 1 + j := by
        rw [(mks_1 (σ := mk σ q24 N) (n := M) j).1]
        simp [mk]
        omega
      refine ⟨va_up ca' ((mks (mk σ q24 N) M j).1.length + 1) comp, ?_⟩
      have hpu := Wd.push (base := base) (σ := mks (mk σ q24 N) M j) (σ' := mks (mk σ q24 N) M (j + 1)) (H := F.heap) (H1 := F.heap) (cA := comp) (q := (20, M, [])) hK2 (fun t x hx => hx) v1 v2 (fun x hx => rfl) ?_ rfl (fun k j9 hk => by show get (mk (mks (mk σ q24 N) M j) (20, M, []) M) k j9 = _; rw [get_mk, if_neg (by omega)]) (inR_mk v3) ⟨Or.inr ⟨Nat.le_of_ble_eq_true rfl, Nat.le_of_ble_eq_true rfl⟩, Or.inl rfl⟩ (fun _ => ⟨(tys ++ [(cA, FieldType.array .int)]).length, by rw [List.getElem?_append_right (Nat.le_refl _), Nat.sub_self]; rfl⟩)
      · exact ⟨hpu.1, hpu.2, inR_mk v3⟩
      · rw [ent_i (q := (20, M, [])) (Or.inl rfl)]
        show F.heap[base + (mks (mk σ q24 N) M j).1.length]? = some (vp_cell _ _)
        rw [show base + (mks (mk σ q24 N) M j).1.length = H.size + 1 + j by rw [hlen]; omega, hrow j (by omega), vp_cell_i, va_up_self]
        congr 2
        funext j9
        show Value.int 0 = Value.int (Int32.ofInt (get (mk (mks (mk σ q24 N) M j) (20, M, []) M) _ j9))
        rw [get_mk, if_pos rfl]
        rfl
  obtain ⟨ca', v1, v2, v3⟩ := hS0 N (Nat.le_refl _)
  have hW' : Wd base dC dI (mks (mk σ q24 N) M N) s F.heap := ⟨ca', _, hK2, v1, v2, wsOf_D, v3⟩
  have hS' : va_S (fun q => base ≤ q) s.heap F.heap locs := ⟨Nat.le_trans hS.1 (by omega), fun x q1 q2 => (hold x (by have := hS.1; omega)).trans (hS.2.1 x q1 q2), hS.2.2⟩
  obtain ⟨m1, m2, m3⟩ := mks_1 (σ := mk σ q24 N) (n := M) N
  obtain ⟨t, a1, b1⟩ := k1 F.heap locs (cells + 1 + N) (slots + N + N * M) ls hL hn ha (okc trivial (okt (okt hst))) hW' hS' (by rw [m2]; show _ = σ.2.2.1 + 1 + N; omega) (by rw [m3]; show _ = σ.2.2.2.1 + N + N * M; omega) F rfl X'
  refine ⟨t, step _ ?_, b1⟩
  have hTH : T.heap.size = base + σ.1.length := by rw [hT]; exact hH
  rw [hTH]
  exact a1
end ROWS

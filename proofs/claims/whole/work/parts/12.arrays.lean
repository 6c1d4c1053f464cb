/-! the rows of arrays -/
section ROWS
variable {base : Nat} {sx : Nat → Nat} {dC : Nat → ClassId} {dI : Nat → Nat → Nat} {p : Program} {l : Launch} {e : Env} {R : Room} {s : State} {mi : MethodId} {args : Array Value} {below : List Frame} {meth : Method} {c : Code} {Q : State → Prop} {m n0 m0 pc : Nat} {al st : List AV} {σ : Sg}
theorem ent_i {ca : Nat → ClassId} {k : Nat} {q : AKd} (h : q.1 = 20 ∨ q.1 = 21) : entE base ca σ k q = .inl (ca k, q.2.1, .inl (fun j => Int32.ofInt (get σ k j))) := by unfold entE; rw [if_neg (by omega), if_pos (by omega)]
theorem ent_l {ca : Nat → ClassId} {k : Nat} {q : AKd} (h : q.1 = 22) : entE base ca σ k q = .inl (ca k, q.2.1, .inr (.inl (fun j => Int64.ofInt (get σ k j)))) := by unfold entE; rw [if_neg (by omega), if_neg (by omega), if_pos (by omega)]
theorem ent_r {ca : Nat → ClassId} {k : Nat} {q : AKd} (h : q.1 = 23 ∨ q.1 = 24) : entE base ca σ k q = .inl (ca k, q.2.1, .inr (.inr (.inr (.inr (fun j => co base (q.2.2.getD j 0)))))) := by unfold entE; rw [if_neg (by omega), if_neg (by omega), if_neg (by omega)]
theorem ws_at {ca : Nat → ClassId} {k0 : Nat} {q : AKd} {e9 : va_E} (hq : σ.1[k0]? = some q) (h : entE base ca σ (k0 + 1) q = e9) : (wsOf base ca σ)[k0]? = some (base + k0, e9) := by rw [wsOf_get, hq, ← h]; rfl
theorem k_iaload (C : CX p l R s mi meth c m) (hd : decode (am_b m) pc = .ok (.iaload, 1)) {k : Nat} {i : Int} (hk : okd σ k = 20) (h0 : 0 ≤ i) (hi : i < oln σ k) (k1 : Kt base sx dC dI p l e R s mi args below meth c Q m n0 m0 (pc + 1) (al) (AI (get σ k i.toNat) :: st) (σ)) : Kt base sx dC dI p l e R s mi args below meth c Q m n0 m0 (pc) (al) (AI i :: AR k :: st) (σ) := by
  intro H locs cells slots ls hL hn ha hst hW hS h1 h2
  obtain ⟨k0, q, rfl, hq, hqa⟩ := okd_at hk (by omega)
  obtain ⟨ca, tys, w1, w2, w3, w4, w5⟩ := id hW
  obtain ⟨t0, ht⟩ := (w2 k0 q hq).2 (by omega)
  rw [hqa] at ht
  have hir : inR i := okh hst
  rw [oln_at hq] at hi
  refine va_iald C.1 C.2.1 w1 w3 k0 t0 (ws_at hq (ent_i (Or.inl hqa))) ht (ofI_vp hir h0 hi) hd ?_
  rw [toI_cl hir]
  exact k1 H locs cells slots ls hL hn ha (okc (w5 _ _) (okt (okt hst))) hW hS h1 h2
theorem k_baload (C : CX p l R s mi meth c m) (hd : decode (am_b m) pc = .ok (.baload, 1)) {k : Nat} {i : Int} (hk : okd σ k = 21) (h0 : 0 ≤ i) (hi : i < oln σ k) (k1 : Kt base sx dC dI p l e R s mi args below meth c Q m n0 m0 (pc + 1) (al) (AI (get σ k i.toNat) :: st) (σ)) : Kt base sx dC dI p l e R s mi args below meth c Q m n0 m0 (pc) (al) (AI i :: AR k :: st) (σ) := by
  intro H locs cells slots ls hL hn ha hst hW hS h1 h2
  obtain ⟨k0, q, rfl, hq, hqa⟩ := okd_at hk (by omega)
  obtain ⟨ca, tys, w1, w2, w3, w4, w5⟩ := id hW
  obtain ⟨t0, ht⟩ := (w2 k0 q hq).2 (by omega)
  rw [hqa] at ht
  have hir : inR i := okh hst
  rw [oln_at hq] at hi
  refine va_zald C.1 C.2.1 w1 w3 k0 t0 (ws_at hq (ent_i (Or.inr hqa))) ht (ofI_vp hir h0 hi) hd ?_
  rw [toI_cl hir]
  exact k1 H locs cells slots ls hL hn ha (okc (w5 _ _) (okt (okt hst))) hW hS h1 h2
theorem k_laload (C : CX p l R s mi meth c m) (hd : decode (am_b m) pc = .ok (.laload, 1)) {k : Nat} {i : Int} (hk : okd σ k = 22) (h0 : 0 ≤ i) (hi : i < oln σ k) (k1 : Kt base sx dC dI p l e R s mi args below meth c Q m n0 m0 (pc + 1) (al) (AL (get σ k i.toNat) :: st) (σ)) : Kt base sx dC dI p l e R s mi args below meth c Q m n0 m0 (pc) (al) (AI i :: AR k :: st) (σ) := by
  intro H locs cells slots ls hL hn ha hst hW hS h1 h2
  obtain ⟨k0, q, rfl, hq, hqa⟩ := okd_at hk (by omega)
  obtain ⟨ca, tys, w1, w2, w3, w4, w5⟩ := id hW
  obtain ⟨t0, ht⟩ := (w2 k0 q hq).2 (by omega)
  rw [hqa] at ht
  have hir : inR i := okh hst
  rw [oln_at hq] at hi
  refine va_lald C.1 C.2.1 w1 w3 k0 t0 (ws_at hq (ent_l hqa)) ht (ofI_vp hir h0 hi) hd ?_
  rw [toI_cl hir]
  exact k1 H locs cells slots ls hL hn ha (okc (show inR _ from w5 _ _) (okt (okt hst))) hW hS h1 h2
theorem k_aaload (C : CX p l R s mi meth c m) (hd : decode (am_b m) pc = .ok (.aaload, 1)) {k : Nat} {i : Int} (hk : okd σ k = 23 ∨ okd σ k = 24) (h0 : 0 ≤ i) (hi : i < oln σ k) {j : Nat} (hj : orf σ k i.toNat = j + 1) (k1 : Kt base sx dC dI p l e R s mi args below meth c Q m n0 m0 (pc + 1) (al) (AR (j + 1) :: st) (σ)) : Kt base sx dC dI p l e R s mi args below meth c Q m n0 m0 (pc) (al) (AI i :: AR k :: st) (σ) := by
  intro H locs cells slots ls hL hn ha hst hW hS h1 h2
  obtain ⟨k0, q, rfl, hq, hqa⟩ : ∃ (k0 : Nat) (q : AKd), k = k0 + 1 ∧ σ.1[k0]? = some q ∧ (q.1 = 23 ∨ q.1 = 24) := by
    rcases hk with hk | hk
    · obtain ⟨k0, q, r1, r2, r3⟩ := okd_at hk (by omega); exact ⟨k0, q, r1, r2, Or.inl r3⟩
    · obtain ⟨k0, q, r1, r2, r3⟩ := okd_at hk (by omega); exact ⟨k0, q, r1, r2, Or.inr r3⟩
  obtain ⟨ca, tys, w1, w2, w3, w4, w5⟩ := id hW
  obtain ⟨t0, ht⟩ := (w2 k0 q hq).2 (by omega)
  have hir : inR i := okh hst
  rw [oln_at hq] at hi
  rw [orf_at hq] at hj
  have kk := k1 H locs cells slots ls hL hn ha (okc trivial (okt (okt hst))) hW hS h1 h2
  have hv : va_rf (co base (q.2.2.getD (Int32.ofInt i).toNatClampNeg 0)) = .ref (base + j) := by rw [toI_cl hir, hj]; rfl
  have hin := ofI_vp (n := q.2.1) hir h0 hi
  have hlt : (Int32.ofInt i).toNatClampNeg < q.2.1 := Nat.not_le.mp fun q => hin (Or.inr q)
  have hwa := w3 k0 _ (ws_at hq (ent_r hqa))
  have hrk : refKind (aty q.1) = true := by rcases hqa with h | h <;> rw [h] <;> rfl
  refine W.aald (v := .ref (base + j)) (ty := aty q.1) C.1 C.2.1 hwa ((w1.2 t0 _ ht).1 q.2.1 (fun j => va_rf (co base (q.2.2.getD j 0)))) hrk (fun q => by cases q) (by show ¬ (_ ∨ (arrV _ _ _).slots.size ≤ _); rw [arrV_size]; exact hin) (by show (arrV _ _ _).slots[_]? = _; rw [arrV_read _ _ hlt, hv]) rfl rfl hd kk
theorem k_alen (C : CX p l R s mi meth c m) (hd : decode (am_b m) pc = .ok (.arraylength, 1)) {k : Nat} (hk : okd σ k = 20) (hle : oln σ k ≤ 1000000) (k1 : Kt base sx dC dI p l e R s mi args below meth c Q m n0 m0 (pc + 1) (al) (AI (oln σ k) :: st) (σ)) : Kt base sx dC dI p l e R s mi args below meth c Q m n0 m0 (pc) (al) (AR k :: st) (σ) := by
  intro H locs cells slots ls hL hn ha hst hW hS h1 h2
  obtain ⟨k0, q, rfl, hq, hqa⟩ := okd_at hk (by omega)
  obtain ⟨ca, tys, w1, w2, w3, w4, w5⟩ := id hW
  obtain ⟨t0, ht⟩ := (w2 k0 q hq).2 (by omega)
  rw [oln_at hq] at k1 hle
  refine va_alen (x := (q.2.1, .inl (fun j => Int32.ofInt (get σ (k0 + 1) j)))) C.1 C.2.1 w1 w3 k0 t0 (ws_at hq (ent_i (Or.inl hqa))) ht (v := Int32.ofInt (q.2.1 : Int)) rfl hd ?_
  exact k1 H locs cells slots ls hL hn ha (okc (show inR _ by unfold inR; omega) (okt hst)) hW hS h1 h2
theorem upd_put {k j : Nat} {x : Int} {q : AKd} {ca : Nat → ClassId} (h : q.1 = 20 ∨ q.1 = 21) : entE base ca (put σ k j x) k q = .inl (ca k, q.2.1, .inl (upd (fun j => Int32.ofInt (get σ k j)) j (Int32.ofInt x))) := by
  rw [ent_i h]
  congr 4
  funext j9
  rw [get_put]
  unfold upd
  by_cases e : j9 = j
  · rw [if_pos ⟨rfl, e⟩, if_pos e]
  · rw [if_neg (fun h => e h.2), if_neg e]
theorem k_iastore (C : CX p l R s mi meth c m) (hd : decode (am_b m) pc = .ok (.iastore, 1)) {k : Nat} {i x : Int} (hk : okd σ k = 20) (h0 : 0 ≤ i) (hi : i < oln σ k) (k1 : Kt base sx dC dI p l e R s mi args below meth c Q m n0 m0 (pc + 1) (al) (st) (put σ k i.toNat x)) : Kt base sx dC dI p l e R s mi args below meth c Q m n0 m0 (pc) (al) (AI x :: AI i :: AR k :: st) (σ) := by
  intro H locs cells slots ls hL hn ha hst hW hS h1 h2
  obtain ⟨k0, q, rfl, hq, hqa⟩ := okd_at hk (by omega)
  obtain ⟨ca, tys, w1, w2, w3, w4, w5⟩ := id hW
  obtain ⟨t0, ht⟩ := (w2 k0 q hq).2 (by omega)
  rw [hqa] at ht
  have hir : inR i := okh (okt hst)
  have hxr : inR x := okh hst
  rw [oln_at hq] at hi
  refine va_iast C.1 C.2.1 w1 w3 w4 hS k0 t0 (ws_at hq (ent_i (Or.inl hqa))) ht (ofI_vp hir h0 hi) hd (fun H1 locs1 q1 q2 q3 => ?_)
  rw [toI_cl hir, ← upd_put (ca := ca) (Or.inl hqa)] at q1 q2
  exact k1 H1 locs1 cells slots ls hL hn ha (okt (okt (okt hst))) (Wd.set hq ⟨rfl, rfl, rfl⟩ (set_same hq).symm (fun a b hab => by rw [get_put, if_neg (by omega)]) (get_hput w5 hxr) w1 w2 q1 q2) q3 h1 h2
theorem k_bastore (C : CX p l R s mi meth c m) (hd : decode (am_b m) pc = .ok (.bastore, 1)) {k : Nat} {i x : Int} (hk : okd σ k = 21) (h0 : 0 ≤ i) (hi : i < oln σ k) (hx : x = 0 ∨ x = 1) (k1 : Kt base sx dC dI p l e R s mi args below meth c Q m n0 m0 (pc + 1) (al) (st) (put σ k i.toNat x)) : Kt base sx dC dI p l e R s mi args below meth c Q m n0 m0 (pc) (al) (AI x :: AI i :: AR k :: st) (σ) := by
  intro H locs cells slots ls hL hn ha hst hW hS h1 h2
  obtain ⟨k0, q, rfl, hq, hqa⟩ := okd_at hk (by omega)
  obtain ⟨ca, tys, w1, w2, w3, w4, w5⟩ := id hW
  obtain ⟨t0, ht⟩ := (w2 k0 q hq).2 (by omega)
  rw [hqa] at ht
  have hir : inR i := okh (okt hst)
  have hxr : inR x := okh hst
  rw [oln_at hq] at hi
  refine va_zast C.1 C.2.1 w1 w3 w4 hS k0 t0 (ws_at hq (ent_i (Or.inr hqa))) ht (ofI_vp hir h0 hi) hd (fun H1 locs1 q1 q2 q3 => ?_)
  have hz : vp_nar .boolean (Int32.ofInt x) = Int32.ofInt x := by rcases hx with rfl | rfl <;> rfl
  rw [hz, toI_cl hir, ← upd_put (ca := ca) (Or.inr hqa)] at q1 q2
  exact k1 H1 locs1 cells slots ls hL hn ha (okt (okt (okt hst))) (Wd.set hq ⟨rfl, rfl, rfl⟩ (set_same hq).symm (fun a b hab => by rw [get_put, if_neg (by omega)]) (get_hput w5 hxr) w1 w2 q1 q2) q3 h1 h2
theorem upd_putL {k j : Nat} {x : Int} {q : AKd} {ca : Nat → ClassId} (h : q.1 = 22) : entE base ca (put σ k j x) k q = .inl (ca k, q.2.1, .inr (.inl (vp_updL (fun j => Int64.ofInt (get σ k j)) j (Int64.ofInt x)))) := by
  rw [ent_l h]
  congr 5
  funext j9
  rw [get_put]
  unfold vp_updL
  by_cases e : j9 = j
  · rw [if_pos ⟨rfl, e⟩, if_pos e]
  · rw [if_neg (fun h => e h.2), if_neg e]
theorem k_lastore (C : CX p l R s mi meth c m) (hd : decode (am_b m) pc = .ok (.lastore, 1)) {k : Nat} {i x : Int} (hk : okd σ k = 22) (h0 : 0 ≤ i) (hi : i < oln σ k) (k1 : Kt base sx dC dI p l e R s mi args below meth c Q m n0 m0 (pc + 1) (al) (st) (put σ k i.toNat x)) : Kt base sx dC dI p l e R s mi args below meth c Q m n0 m0 (pc) (al) (AL x :: AI i :: AR k :: st) (σ) := by
  intro H locs cells slots ls hL hn ha hst hW hS h1 h2
  obtain ⟨k0, q, rfl, hq, hqa⟩ := okd_at hk (by omega)
  obtain ⟨ca, tys, w1, w2, w3, w4, w5⟩ := id hW
  obtain ⟨t0, ht⟩ := (w2 k0 q hq).2 (by omega)
  rw [hqa] at ht
  have hir : inR i := okh (okt hst)
  have hxr : inR x := okh hst
  rw [oln_at hq] at hi
  refine va_last C.1 C.2.1 w1 w3 w4 hS k0 t0 (ws_at hq (ent_l hqa)) ht (ofI_vp hir h0 hi) hd (fun H1 locs1 q1 q2 q3 => ?_)
  rw [toI_cl hir, ← upd_putL (ca := ca) hqa] at q1 q2
  exact k1 H1 locs1 cells slots ls hL hn ha (okt (okt (okt hst))) (Wd.set hq ⟨rfl, rfl, rfl⟩ (set_same hq).symm (fun a b hab => by rw [get_put, if_neg (by omega)]) (get_hput w5 hxr) w1 w2 q1 q2) q3 h1 h2
theorem k_sload (C : CX p l R s mi meth c m) {σ0 : Sg} (hE : Ex base sx σ0 s s.heap) (hσ : σ.2.2.2.2 = σ0.2.2.2.2) (hd : decode (am_b m) pc = .ok (.iaload, 1)) {i : Int} (h0 : 0 ≤ i) (hi : i < (σ.2.2.2.2.1 : Int)) (k1 : Kt base sx dC dI p l e R s mi args below meth c Q m n0 m0 (pc + 1) (al) (AI (σ.2.2.2.2.2 i.toNat) :: st) (σ)) : Kt base sx dC dI p l e R s mi args below meth c Q m n0 m0 (pc) (al) (AI i :: AS 0 :: st) (σ) := by
  intro H locs cells slots ls hL hn ha hst hW hS h1 h2
  obtain ⟨-, -, -, -, -, h6, h7, -, -, -, h11, h12, -⟩ := hE
  have hir : inR i := okh hst
  rw [hσ] at k1 hi
  have hbl : sx 0 < s.heap.size := by
    obtain ⟨scr, e1, -⟩ := h6
    exact (Array.getElem?_eq_some_iff.mp e1).1
  refine va_sld C.1 C.2.1 h6 hbl (Nat.not_le.mpr h7) hS (ofI_vp hir h0 hi) hd ?_
  rw [toI_cl hir]
  exact k1 H locs cells slots ls hL hn ha (okc (h11 _) (okt (okt hst))) hW hS h1 h2
theorem k_slen (C : CX p l R s mi meth c m) {σ0 : Sg} (hE : Ex base sx σ0 s s.heap) (hσ : σ.2.2.2.2 = σ0.2.2.2.2) (hd : decode (am_b m) pc = .ok (.arraylength, 1)) (k1 : Kt base sx dC dI p l e R s mi args below meth c Q m n0 m0 (pc + 1) (al) (AI (σ.2.2.2.2.1 : Int) :: st) (σ)) : Kt base sx dC dI p l e R s mi args below meth c Q m n0 m0 (pc) (al) (AS 0 :: st) (σ) := by
  intro H locs cells slots ls hL hn ha hst hW hS h1 h2
  obtain ⟨-, -, -, -, -, h6, h7, -, -, -, h11, h12, -⟩ := hE
  rw [hσ] at k1
  have hbl : sx 0 < s.heap.size := by
    obtain ⟨scr, e1, -⟩ := h6
    exact (Array.getElem?_eq_some_iff.mp e1).1
  refine va_slen C.1 C.2.1 h6 hbl (Nat.not_le.mpr h7) hS hd ?_
  exact k1 H locs cells slots ls hL hn ha (okc (show inR _ by unfold inR; omega) (okt hst)) hW hS h1 h2
end ROWS

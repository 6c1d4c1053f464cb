/-! EVERY STEP THAT GOES ON -/
theorem nx_inj {pc pc1 : Nat} {ls ls1 st st1 : List AV} {σ σ1 : Sg} (h : nx pc ls st σ = nx pc1 ls1 st1 σ1) : pc = pc1 ∧ ls = ls1 ∧ st = st1 ∧ σ = σ1 := by
  cases h
  exact ⟨rfl, rfl, rfl, rfl⟩
theorem nxn {pc1 : Nat} {ls1 st1 : List AV} {σ1 : Sg} {G : Prop} (h : none = nx pc1 ls1 st1 σ1) : G := nomatch h
theorem jmp_inj {pc : Nat} {off : Int} {ls st : List AV} {σ : Sg} {pc1 : Nat} {ls1 st1 : List AV} {σ1 : Sg} (h : jmp pc off ls st σ = nx pc1 ls1 st1 σ1) : 0 ≤ (pc : Int) + off ∧ ((pc : Int) + off).toNat = pc1 ∧ ls = ls1 ∧ st = st1 ∧ σ = σ1 := by
  unfold jmp at h
  split at h
  · exact ⟨by assumption, nx_inj h⟩
  · exact nxn h
theorem calx {y : Nat} {as : List AV} {pc : Nat} {ls st : List AV} {σ : Sg} {pc1 : Nat} {ls1 st1 : List AV} {σ1 : Sg} {G : Prop} (h : cal y as pc ls st σ = nx pc1 ls1 st1 σ1) : G := by
  unfold cal at h
  split at h
  · cases h
  · exact nxn h
theorem find_at {l : List AEnt} {pc : Nat} {e : AEnt} (h : am_find l pc = some e) : e ∈ l ∧ e.1 = pc := by
  unfold am_find at h
  refine ⟨List.mem_of_find?_eq_some h, ?_⟩
  have := List.find?_some h
  simpa using this
section NX
variable {base : Nat} {sx : Nat → Nat} {dC : Nat → ClassId} {dI : Nat → Nat → Nat} {p : Program} {l : Launch} {e : Env} {R : Room} {s : State} {mi : MethodId} {args : Array Value} {below : List Frame} {meth : Method} {c : Code} {Q : State → Prop} {m n0 m0 pc : Nat} {al st : List AV} {σ : Sg}
theorem k_slength (C : CX p l R s mi meth c m) (hE : Ex base sx σ s s.heap) {i w k : Nat} (hd : decode (am_b m) pc = .ok (.invokevirtual i, 3)) (hw : ichk m i 0 0 7 w 0 = true) (hcat : acats st ≤ 8) (hk : k < am_txt.length) (hc : σ.2.2.1 ≤ n0 + R.cells) (hs : σ.2.2.2.1 ≤ m0 + R.slots) (k1 : Kt base sx dC dI p l e R s mi args below meth c Q m n0 m0 (pc + 3) (al) (AI ((text (k + 1)).length : Int) :: st) (σ)) : Kt base sx dC dI p l e R s mi args below meth c Q m n0 m0 (pc) (al) (AS (k + 1) :: st) (σ) := by
  intro H locs cells slots ls hL hn ha hst hW hS h1 h2
  have hw : (decide ((0 : Nat) = 0) && inT (w + am_nlw) (.methodLink (am_own m) i yJ0_length_8abf5) && decide (2 ≤ am_fr m) && decide (60 ≤ am_lo m)) = true := hw
  simp only [Bool.and_eq_true, decide_eq_true_eq] at hw
  obtain ⟨⟨⟨-, w1⟩, w2⟩, w3⟩ := hw
  have hks : k < am_strs.length := hk
  have hlen := len_at hk
  refine virtual_call (as := []) (rest := st.map (cv base sx)) (r := some (.int (Int32.ofInt ((text (k + 1)).length : Int)))) C.1 C.2.1 C.2.2.2.2.1 C.2.2.2.1 hE hS hks (c_length l k hks hk) 499 107 (w + am_nlw) 497 498 (by decide +kernel) (by decide +kernel) w1 (by decide +kernel) (by decide +kernel) (n := 0) (by decide +kernel) rfl ⟨Nat.le_trans (by omega) C.2.2.2.2.2.2.2.1, Nat.le_trans (by omega) C.2.2.2.2.2.2.2.2.1⟩ ⟨by omega, by omega⟩ (hL.1.trans hn) rfl (by rw [cats_cv]; exact hcat) hd ?_
  exact k1 H locs cells slots ls hL hn ha (okc (show inR _ by unfold inR; omega) (okt hst)) hW hS h1 h2
theorem k_scharAt (C : CX p l R s mi meth c m) (hE : Ex base sx σ s s.heap) {ix w k : Nat} {i : Int} (hd : decode (am_b m) pc = .ok (.invokevirtual ix, 3)) (hw : ichk m ix 0 0 8 w 0 = true) (hcat : acats st ≤ 8) (hk : k < am_txt.length) (h0 : 0 ≤ i) (hi : i < (text (k + 1)).length) (hc : σ.2.2.1 ≤ n0 + R.cells) (hs : σ.2.2.2.1 ≤ m0 + R.slots) (k1 : Kt base sx dC dI p l e R s mi args below meth c Q m n0 m0 (pc + 3) (al) (AI ((text (k + 1)).getD i.toNat 0) :: st) (σ)) : Kt base sx dC dI p l e R s mi args below meth c Q m n0 m0 (pc) (al) (AI i :: AS (k + 1) :: st) (σ) := by
  intro H locs cells slots ls hL hn ha hst hW hS h1 h2
  have hw : (decide ((0 : Nat) = 0) && inT (w + am_nlw) (.methodLink (am_own m) ix yJ0_charAt_5068e) && decide (4 ≤ am_fr m) && decide (140 ≤ am_lo m)) = true := hw
  simp only [Bool.and_eq_true, decide_eq_true_eq] at hw
  obtain ⟨⟨⟨-, w1⟩, w2⟩, w3⟩ := hw
  have hks : k < am_strs.length := hk
  have hir : inR i := okh hst
  obtain ⟨n, hn1, hc1⟩ := txt_at (k := k) (i := i.toNat) hk (by omega)
  refine virtual_call (as := [.int (Int32.ofInt i)]) (rest := st.map (cv base sx)) (r := some (.int (Int32.ofInt ((text (k + 1)).getD i.toNat 0)))) C.1 C.2.1 C.2.2.2.2.1 C.2.2.2.1 hE hS hks (c_charAt l k hks hk hir h0 hi) 509 107 (w + am_nlw) 507 508 (by decide +kernel) (by decide +kernel) w1 (by decide +kernel) (by decide +kernel) (n := 1) (by decide +kernel) rfl ⟨Nat.le_trans (by omega) C.2.2.2.2.2.2.2.1, Nat.le_trans (by omega) C.2.2.2.2.2.2.2.2.1⟩ ⟨by omega, by omega⟩ (hL.1.trans hn) rfl (by rw [cats_cv]; exact hcat) hd ?_
  exact k1 H locs cells slots ls hL hn ha (okc (show inR _ by unfold inR; omega) (okt (okt hst))) hW hS h1 h2
theorem k_objinit (C : CX p l R s mi meth c m) (hE : Ex base sx σ s s.heap) {i w k : Nat} (hd : decode (am_b m) pc = .ok (.invokespecial i, 3)) (hw : ichk m i 0 0 5 w 1 = true) (hcat : acats st ≤ 8) (k1 : Kt base sx dC dI p l e R s mi args below meth c Q m n0 m0 (pc + 3) (al) (st) (σ)) : Kt base sx dC dI p l e R s mi args below meth c Q m n0 m0 (pc) (al) (AR (k + 1) :: st) (σ) := by
  intro H locs cells slots ls hL hn ha hst hW hS h1 h2
  have hw : (decide ((1 : Nat) = 1) && inT (w + am_nlw) (.methodLink (am_own m) i objectInit) && decide (1 ≤ am_fr m) && decide (20 ≤ am_lo m)) = true := hw
  simp only [Bool.and_eq_true, decide_eq_true_eq] at hw
  obtain ⟨⟨⟨-, w1⟩, w2⟩, w3⟩ := hw
  have w2' := C.2.2.2.2.2.2.2.1
  have w3' := C.2.2.2.2.2.2.2.2.1
  refine W.objInit C.1 C.2.1 C.2.2.2.1 (kw hE.1 _ w1) (kw hE.1 127 (w := .instanceMethod objectInit) (by decide +kernel)) (kw hE.1 128 (w := .code objectInit ⟨#[0xb1]⟩ 1 none) (by decide +kernel)) rfl (hL.1.trans (hn.trans C.2.2.2.2.1.symm)) rfl hd (by omega) ?_ ?_
  · show 2 * 0 + ((st.map (cv base sx)).map fun v => v.category).sum + 12 ≤ R.locals
    rw [cats_cv]
    omega
  · exact k1 H locs cells slots ls hL hn ha (okt hst) hW hS h1 h2
theorem k_copy (C : CX p l R s mi meth c m) (hE : Ex base sx σ s s.heap) {i w x y : Nat} {sp dp n : Int} (hd : decode (am_b m) pc = .ok (.invokestatic i, 3)) (hw : ichk m i 0 0 6 w 2 = true) (hcat : acats st ≤ 8) (hx : okd σ x = 20) (hy : okd σ y = 20) (g1 : 0 ≤ sp) (g2 : 0 ≤ dp) (g3 : 0 ≤ n) (g4 : sp + n ≤ oln σ x) (g5 : dp + n ≤ oln σ y) (k1 : Kt base sx dC dI p l e R s mi args below meth c Q m n0 m0 (pc + 3) (al) (st) (copyw σ x sp.toNat y dp.toNat n.toNat)) : Kt base sx dC dI p l e R s mi args below meth c Q m n0 m0 (pc) (al) (AI n :: AI dp :: AR y :: AI sp :: AR x :: st) (σ) := by
  intro H locs cells slots ls hL hn ha hst hW hS h1 h2
  have hw : (decide ((2 : Nat) = 2) && inT (w + am_nlw) (.methodLink (am_own m) i arraycopyName) && decide (1 ≤ am_fr m) && decide (8 + (nativeFrameWords "java/lang/System" "arraycopy" 5 + 11) ≤ am_lo m)) = true := hw
  simp only [Bool.and_eq_true, decide_eq_true_eq] at hw
  obtain ⟨⟨⟨-, w1⟩, w2⟩, w3⟩ := hw
  have w2' := C.2.2.2.2.2.2.2.1
  have w3' := C.2.2.2.2.2.2.2.2.1
  obtain ⟨x0, qx, rfl, hqx, hqxa⟩ := okd_at hx (by omega)
  obtain ⟨y0, qy, rfl, hqy, hqya⟩ := okd_at hy (by omega)
  obtain ⟨ca, tys, v1, v2, v3, v4, v5⟩ := id hW
  obtain ⟨t0, ht0⟩ := (v2 x0 qx hqx).2 (by omega)
  obtain ⟨t1, ht1⟩ := (v2 y0 qy hqy).2 (by omega)
  rw [hqxa] at ht0
  rw [hqya] at ht1
  rw [oln_at hqx] at g4
  rw [oln_at hqy] at g5
  have rn : inR n := okh hst
  have rd : inR dp := okh (okt hst)
  have rs : inR sp := okh (okt (okt (okt hst)))
  have neg : ∀ z : Int, inR z → 0 ≤ z → ¬ Int32.ofInt z < 0 := fun z hz h0 h => by have := (ofI_lt hz inR_0).mp h; omega
  refine va_copyi C.1 C.2.1 (by rw [hL.1, hn, C.2.2.2.2.1]) C.2.2.2.1 (kw hE.1 _ w1) (kw hE.1 700 (w := .native arraycopyName) (by decide +kernel)) (kw hE.1 699 (w := .static arraycopyName) (by decide +kernel)) (kw hE.1 112 (w := .initialized "java/lang/System") (by decide +kernel)) v1 v3 v4 hS x0 y0 t0 t1 (ws_at hqx (ent_i (Or.inl hqxa))) (ws_at hqy (ent_i (Or.inl hqya))) ht0 ht1 rfl (neg sp rs g1) (neg dp rd g2) (neg n rn g3) (by rw [toI_cl rs, toI_cl rn]; omega) (by rw [toI_cl rd, toI_cl rn]; omega) (fun i _ => rfl) (by omega) (by rw [cats_cv]; omega) hd (fun H1 locs1 q1 q2 q3 => ?_)
  rw [toI_cl rs, toI_cl rd, toI_cl rn] at q1 q2
  have hent : entE base ca (copyw σ (x0 + 1) sp.toNat (y0 + 1) dp.toNat n.toNat) (y0 + 1) qy = .inl (ca (y0 + 1), qy.2.1, .inl (va_cpy (fun j => Int32.ofInt (get σ (x0 + 1) j)) (fun j => Int32.ofInt (get σ (y0 + 1) j)) sp.toNat dp.toNat n.toNat)) := by
    rw [ent_i (Or.inl hqya)]
    congr 4
    funext j
    show Int32.ofInt (hcopy σ.2.1 (x0 + 1) sp.toNat (y0 + 1) dp.toNat n.toNat (y0 + 1) j) = _
    unfold hcopy
    by_cases hj : dp.toNat ≤ j ∧ j < dp.toNat + n.toNat
    · rw [if_pos ⟨rfl, hj⟩, pk_cpy_in hj.1 hj.2]
      rfl
    · rw [if_neg (fun h => hj h.2), pk_cpy_out (by omega)]
      rfl
  rw [← hent] at q1 q2
  refine k1 H1 locs1 cells slots ls hL hn ha (okt (okt (okt (okt (okt hst))))) (Wd.set hqy ⟨rfl, rfl, rfl⟩ (set_same hqy).symm (fun a b hab => ?_) (fun a b => ?_) v1 v2 q1 q2) q3 h1 h2
  · show hcopy σ.2.1 (x0 + 1) sp.toNat (y0 + 1) dp.toNat n.toNat (a + 1) b = _
    unfold hcopy
    rw [if_neg (fun h => by omega)]
    rfl
  · show inR (hcopy σ.2.1 (x0 + 1) sp.toNat (y0 + 1) dp.toNat n.toNat a b)
    unfold hcopy
    split
    · exact v5 _ _
    · exact v5 _ _
theorem ichk_c {i a b cc w v : Nat} (h : ichk m i a b cc w v = true) (hc : cc = 5 ∨ cc = 6 ∨ cc = 7 ∨ cc = 8) : ichk m i 0 0 cc w v = true := by
  rcases hc with rfl | rfl | rfl | rfl <;> exact h
theorem ichk_v {i a b cc w v v1 : Nat} (h : ichk m i a b cc w v = true) (hc : (cc = 5 ∧ v1 = 1) ∨ (cc = 6 ∧ v1 = 2) ∨ (cc = 7 ∧ v1 = 0) ∨ (cc = 8 ∧ v1 = 0)) : v = v1 := by
  rcases hc with ⟨rfl, rfl⟩ | ⟨rfl, rfl⟩ | ⟨rfl, rfl⟩ | ⟨rfl, rfl⟩ <;> (simp only [ichk] at h; simp at h; exact h.1.1.1)
/-- the library's members, by whatever instruction -/
theorem k_stC (C : CX p l R s mi meth c m) (hE : Ex base sx σ s s.heap) {i a b cc w v : Nat} (hd : ∀ u, v = u → decode (am_b m) pc = .ok (if u = 0 then .invokevirtual i else if u = 1 then .invokespecial i else .invokestatic i, 3)) (hw : ichk m i a b cc w v = true) {pc1 : Nat} {al1 st1 : List AV} {σ1 : Sg} (hs : stC pc al st σ a b cc = nx pc1 al1 st1 σ1) (hc : σ1.2.2.1 ≤ n0 + R.cells) (hs2 : σ1.2.2.2.1 ≤ m0 + R.slots) (k1 : Kt base sx dC dI p l e R s mi args below meth c Q m n0 m0 (pc1) (al1) (st1) (σ1)) : Kt base sx dC dI p l e R s mi args below meth c Q m n0 m0 (pc) (al) (st) (σ) := by
  unfold stC at hs
  split at hs
  · split at hs
    · exact calx hs
    · exact nxn hs
  · split at hs
    · split at hs
      · split at hs
        · exact calx hs
        · exact nxn hs
      · exact nxn hs
    · split at hs
      · next hcc =>
        split at hs
        · split at hs
          · obtain ⟨rfl, rfl, rfl, rfl⟩ := nx_inj hs
            have hv := ichk_v hw (v1 := 1) (Or.inl ⟨hcc, rfl⟩)
            subst hcc; subst hv
            exact k_objinit C hE (hd 1 rfl) (ichk_c hw (Or.inl rfl)) (by assumption) k1
          · exact nxn hs
        · exact nxn hs
      · split at hs
        · next hcc =>
          split at hs
          · split at hs
            · next hg =>
              obtain ⟨rfl, rfl, rfl, rfl⟩ := nx_inj hs
              have hv := ichk_v hw (v1 := 2) (Or.inr (Or.inl ⟨hcc, rfl⟩))
              subst hcc; subst hv
              obtain ⟨g1, g2, g3, g4, g5, g6, g7, g8⟩ := hg
              exact k_copy C hE (hd 2 rfl) (ichk_c hw (Or.inr (Or.inl rfl))) g1 g2 g3 g4 g5 g6 g7 g8 k1
            · exact nxn hs
          · exact nxn hs
        · split at hs
          · next hcc =>
            split at hs
            · split at hs
              · next hg =>
                obtain ⟨rfl, rfl, rfl, rfl⟩ := nx_inj hs
                have hv := ichk_v hw (v1 := 0) (Or.inr (Or.inr (Or.inl ⟨hcc, rfl⟩)))
                subst hcc; subst hv
                exact k_slength C hE (hd 0 rfl) (ichk_c hw (Or.inr (Or.inr (Or.inl rfl)))) hg.1 hg.2 hc hs2 k1
              · exact nxn hs
            · exact nxn hs
          · split at hs
            · next hcc =>
              split at hs
              · split at hs
                · next hg =>
                  obtain ⟨rfl, rfl, rfl, rfl⟩ := nx_inj hs
                  have hv := ichk_v hw (v1 := 0) (Or.inr (Or.inr (Or.inr ⟨hcc, rfl⟩)))
                  subst hcc; subst hv
                  exact k_scharAt C hE (hd 0 rfl) (ichk_c hw (Or.inr (Or.inr (Or.inr rfl)))) hg.1 hg.2.1 hg.2.2.1 hg.2.2.2 hc hs2 k1
                · exact nxn hs
              · exact nxn hs
            · exact nxn hs
end NX

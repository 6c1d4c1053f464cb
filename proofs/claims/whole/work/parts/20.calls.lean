section SN3
variable {base : Nat} {sx : Nat → Nat} {dC : Nat → ClassId} {dI : Nat → Nat → Nat} {l : Launch}
theorem mchk_at (TAB : TabOK) {y : Nat} (hy : y < 312) : inT (am_pl y).1 (codeW y) = true ∧ inT (am_pl y).2.1 (if am_st y then .static (am_y y) else .instanceMethod (am_y y)) = true ∧ inT (am_pl y).2.2.1 (.initialized (am_y y).cls) = true ∧ (am_st y || isInit y || inT (am_pl y).2.2.2 (.selects (am_y y).cls (am_y y) (am_y y))) = true ∧ (am_y y).cls ≠ "java/lang/invoke/MethodHandle" ∧ (am_y y).cls ≠ "java/lang/invoke/VarHandle" ∧ (parseMethodDescriptor (am_y y).desc).map (fun d => d.parameters.length) = some (am_na y) ∧ am_own y = (am_y y).cls ∧ plainName (am_y y).cls = true ∧ (am_st y || decide ((vwCl[am_ci y]?).map (fun q => q.1) = some (am_y y).cls)) = true ∧ (isInit y = true → am_ret y = none) := by
  have hch := TAB.1 y hy
  simp only [mchk, Bool.and_eq_true, decide_eq_true_eq] at hch
  obtain ⟨⟨⟨⟨⟨⟨⟨⟨⟨⟨⟨h1, h2⟩, h3⟩, h4⟩, h5⟩, h6⟩, h7⟩, h8⟩, h9⟩, h10⟩, h11⟩, h12⟩ := hch
  exact ⟨h1, h2, h3, h4, h5, h6, h7, h8, h10, h11, fun h => by rw [h] at h12; simpa using h12⟩
/-- a callee's contract -/
theorem met_of (TAB : TabOK) (hl : l.stackTraces = false) {n : Nat} (ih : PN base sx dC dI l n) {y : Nat} (hy : y < 312) {as : List AV} {σ : Sg} {o : Out} (hr : run n y 0 (entryL y as) [] σ = some o) (hlen : as.length ≤ am_ml y) (hcat : as.all cat1 = true) (hok : ∀ v ∈ as, okA v) :
    vx_Met l (am_y y) [codeW y] (rmM y o σ) (PcM base sx dC dI σ as) (QcM base sx dC dI y o) (XCM base dC dI o) (o.2.2.2.1 - σ.2.2.1) (o.2.2.2.2.1 - σ.2.2.2.1) (fun q => base ≤ q) := by
  obtain ⟨q1, q2, q3, q4, q5, q6, q7, q8, q9, q10, q11⟩ := mchk_at TAB hy
  have hmono := run_monoS _ _ _ _ _ _ _ hr
  have body : ∀ (p : Program) (e : Env) (s : State) (m : MethodId) (args : Array Value) (below : List Frame) (meth : Method) (c : Code) (s₁ : State), BodyLoose p l (am_y y) (headSpec [codeW y] (rmM y o σ)) (am_b y) (am_ml y) (am_ret y) e s m args below meth c s₁ → c.maxLocals = am_ml y → TB y c → PcM base sx dC dI σ as args s →
      W p l e (headSpec [codeW y] (rmM y o σ)).room s m args below meth c s.heap [] 0 0 (vx_MQ below (QcM base sx dC dI y o) (XCM base dC dI o) args s (o.2.2.2.1 - σ.2.2.1) (o.2.2.2.2.1 - σ.2.2.2.1) (fun q => base ≤ q)) (entryFrame m args (am_ml y)) := by
    intro p e s m args below meth c s₁ B hml hTB hv
    obtain ⟨rfl, hW, hE, hb1, hb2⟩ := hv
    have hown : s.vm.findClass (am_own y) = some m.cls := by rw [q8]; exact findClass_of_methodNamed B.named
    have C : CX p l (headSpec [codeW y] (rmM y o σ)).room s m meth c y := ⟨B.exec, B.bytes, B.returns, hown, hml, B.notSynchronized, fun hi => by
      rw [(name_of_methodNamed B.named B.method).1]
      unfold isInit at hi
      simpa using hi, Nat.le_refl _, Nat.le_refl _, hl⟩
    have hcat' : ∀ v ∈ as, cat1 v = true := List.all_eq_true.mp hcat
    have hL := LH.entry (base := base) (sx := sx) hcat' hlen
    rw [lg_entry_eq]
    refine ih y 0 (entryL y as) [] σ o hr p e _ s m _ below meth c _ σ.2.2.1 σ.2.2.2.1 C hTB ?_ ?_ ⟨hb1, hb2⟩ hE ?_ ?_ s.heap [] 0 0 _ hL ?_ ?_ (fun v hv => nomatch hv) hW va_S.rf (Nat.zero_add _) (Nat.zero_add _)
    · intro v σ1 ho H locs cells slots ls pc st hq hokv hW1 hS1 c1 c2
      subst ho
      have e1 : cells = σ1.2.2.1 - σ.2.2.1 := by omega
      have e2 : slots = σ1.2.2.2.1 - σ.2.2.2.1 := by omega
      subst e1; subst e2
      exact ret_MQ TAB hy C hq hokv hW1 hS1
    · intro E σ1 ho
      subst ho
      exact ⟨_, _, _, _, rfl, by show σ1.2.2.1 ≤ σ.2.2.1 + (σ1.2.2.1 - σ.2.2.1); omega, by show σ1.2.2.2.1 ≤ σ.2.2.2.1 + (σ1.2.2.2.1 - σ.2.2.2.1); omega, fun t h1 h2 h3 => ⟨E, σ1, rfl, rfl, h2, h3⟩⟩
    · show o.2.2.2.1 ≤ σ.2.2.1 + (o.2.2.2.1 - σ.2.2.1)
      omega
    · show o.2.2.2.2.1 ≤ σ.2.2.2.1 + (o.2.2.2.2.1 - σ.2.2.2.1)
      omega
    · unfold entryL; simp; omega
    · intro v hv
      rcases List.mem_append.mp hv with h | h
      · exact hok v h
      · rw [List.eq_of_mem_replicate h]; exact trivial
  cases hh : am_hh y with
  | none =>
    have hcw : codeW y = Cond.code (am_y y) (am_b y) (am_ml y) (am_ret y) := by unfold codeW; rw [hh]
    refine vx_ofW (cc := am_b y) (maxL := am_ml y) (ret := am_ret y) (ws' := []) q9 (by rw [hcw]) ?_
    intro p e s m args below meth c s₁ B hml ht hv
    exact body p e s m args below meth c s₁ B hml ⟨fun _ => ht, fun hh9 h9 => (by rw [hh] at h9; cases h9)⟩ hv
  | some hh9 =>
    have hcw : codeW y = Cond.codeWith (am_y y) (am_b y) (am_ml y) (am_ret y) hh9 := by unfold codeW; rw [hh]
    refine vx_ofWH (cc := am_b y) (maxL := am_ml y) (ret := am_ret y) (hh := hh9) (ws' := []) q9 (by rw [hcw]) ?_
    intro p e s m args below meth c s₁ B hml hv
    refine body p e s m args below meth c s₁ B hml ⟨fun h9 => (by rw [hh] at h9; cases h9), fun hh8 h8 => ?_⟩ hv
    rw [hh] at h8
    cases h8
    have hE : Ex base sx σ s s.heap := hv.2.2.1
    refine vx_table (x := am_y y) B (y := am_y y) (bytes := am_b y) (maxL' := am_ml y) (ret' := am_ret y) (args := args) ?_
    rw [← hcw]
    exact kw hE.1 _ q1
section
variable {p : Program} {e : Env} {R : Room} {s : State} {mi : MethodId} {args : Array Value} {below : List Frame} {meth : Method} {c : Code} {Q : State → Prop} {m n0 m0 : Nat} {H : Heap} {locs : List Loc} {cells slots : Nat}
/-- the run of a call -/
theorem call_run (TAB : TabOK) {pc y pc1 : Nat} {al st as st1 : List AV} {σ : Sg} {ls : Array Slot} (C : CX p l R s mi meth c m) (hE : Ex base sx σ s s.heap) (hca : CallAt m pc st σ y as pc1 st1) {u : Out} (hM : vx_Met l (am_y y) [codeW y] (rmM y u σ) (PcM base sx dC dI σ as) (QcM base sx dC dI y u) (XCM base dC dI u) (u.2.2.2.1 - σ.2.2.1) (u.2.2.2.2.1 - σ.2.2.2.1) (fun q => base ≤ q))
    (hnt : am_nt y = true → ∃ v σ1, u = (.inl v, σ1)) (hL : LH base sx ls al) (hn : al.length = am_ml m) (hW : Wd base dC dI σ s H) (hS : va_S (fun q => base ≤ q) s.heap H locs) (hb : base ≤ s.heap.size) (hz : H.size ≤ base + σ.2.2.1) (hRc : cells + (u.2.2.2.1 - σ.2.2.1) ≤ R.cells) (hRs : slots + (u.2.2.2.2.1 - σ.2.2.2.1) ≤ R.slots) :
    ∃ a, vx_Run p l e R s mi args below meth c H locs cells slots (u.2.2.2.1 - σ.2.2.1) (u.2.2.2.2.1 - σ.2.2.2.1) (F0 mi pc ls (st.map (cv base sx))) (st1.map (cv base sx)) (QcM base sx dC dI y u a) (XCM base dC dI u) (fun q => base ≤ q) := by
  obtain ⟨i, b, cc, w, rfl, ⟨h8, hcat, hlen⟩, hck, hbn, hk⟩ := hca
  simp only [cchk, Bool.and_eq_true, decide_eq_true_eq] at hck
  obtain ⟨⟨⟨⟨⟨⟨⟨hy, hna⟩, hfr⟩, hlo⟩, hlink⟩, hstat⟩, hhh⟩, hntc⟩ := hck
  obtain ⟨q1, q2, q3, q4, q5, q6, q7, q8, q9, q10, q11⟩ := mchk_at TAB hy
  have hls : ls.size = am_ml m := hL.1.trans hn
  have hcats : ((st1.map (cv base sx)).map fun v => v.category).sum ≤ 8 := by rw [cats_cv]; exact h8
  have hfr' : (rmM y u σ).frames + 1 ≤ R.frames := Nat.le_trans hfr C.2.2.2.2.2.2.2.1
  have hlo' : 8 + (am_ml y + 11) + (rmM y u σ).locals ≤ R.locals := Nat.le_trans hlo C.2.2.2.2.2.2.2.2.1
  have hws : ∀ w ∈ [codeW y], ∀ (a' : Array Value) (U : State), s.WarmedH U.vm → w.before a' U = true := fun w9 hw9 a' U hW9 => by
    rw [List.mem_singleton.mp hw9]
    exact okW_use (inT_mem q1).2 (okW_warm hW9 (inT_mem q1).2 (hE.1 _ (inT_mem q1).1 (inT_mem q1).2))
  have hPc : ∀ U : State, U.heap = H → s.WarmedH U.vm → PcM base sx dC dI σ as (as.map (cv base sx)).toArray U := fun U hU hW9 => ⟨rfl, by rw [hU]; exact hW.moved hW9.alike, by
    have := Ex.go (σ1 := σ) (U := U) (H1 := U.heap) hW9 (fun a ha hA => by rw [hU]; exact hS.2.1 a ha hA) rfl hE
    exact this, by rw [hU]; exact Nat.le_trans hb hS.1, by rw [hU]; exact hz⟩
  have fix : CallFix p mi c (am_b m) (am_ml m) s args ([] : List Jvm.Cond) (am_own m) := ⟨C.1, C.2.1, C.2.2.2.2.1, C.2.2.2.1, fun w9 h9 => nomatch h9⟩
  have hlenD : ∀ sig, parseMethodDescriptor (am_y y).desc = some sig → b = sig.parameters.length := fun sig h => by
    rw [h] at q7
    rw [hna]
    exact (Option.some.inj q7).symm
  rcases hk with ⟨hcc, hd, hst⟩ | ⟨hk, t, as', has, hst, hok⟩
  · -- static
    rw [if_pos hcc] at hbn
    have hlas : (as.map (cv base sx)).length = b := by rw [List.length_map]; omega
    have hstack : (F0 mi pc ls (st.map (cv base sx))).stack = (as.map (cv base sx)).reverse ++ st1.map (cv base sx) := by
      show st.map (cv base sx) = _
      rw [hst, List.map_append, List.map_reverse]
    rcases hcc with rfl | rfl
    · have hst9 : am_st y = true := by simpa using hstat
      rw [hst9] at q2
      have q2 : inT (am_pl y).2.1 (.static (am_y y)) = true := q2
      have hlink' : inT (w + am_nlw) (.methodLink (am_own m) i (am_y y)) = true := by simpa using hlink
      cases hh : am_hh y with
      | none =>
        have hcw : codeW y = Cond.code (am_y y) (am_b y) (am_ml y) (am_ret y) := by unfold codeW; rw [hh]
        rw [hcw] at hM hws q1
        refine ⟨_, vx_runS (As := as.map (cv base sx)) (rest := st1.map (cv base sx)) (bytes := am_b y) (maxL := am_ml y) (ret := am_ret y) fix hM ⟨⟨rfl, rfl, hfr', hlo', hws, List.mem_singleton.mpr rfl, kw hE.1 _ q1, kw hE.1 _ q3, ⟨q5, q6⟩, hlenD, kw hE.1 _ hlink'⟩, kw hE.1 _ q2⟩ ⟨PcM.blind, hPc⟩ rfl hlas hls hstack (lv_room hcats) hd ⟨hRc, hRs⟩⟩
      | some hh9 =>
        have hcw : codeW y = Cond.codeWith (am_y y) (am_b y) (am_ml y) (am_ret y) hh9 := by unfold codeW; rw [hh]
        rw [hcw] at hM hws q1
        refine ⟨_, vx_runSX (As := as.map (cv base sx)) (rest := st1.map (cv base sx)) (bytes := am_b y) (maxL := am_ml y) (ret := am_ret y) (hh := hh9) fix hM ⟨⟨rfl, rfl, hfr', hlo', hws, List.mem_singleton.mpr rfl⟩, kw hE.1 _ q1, kw hE.1 _ q3, ⟨q5, q6⟩, hlenD, kw hE.1 _ hlink', kw hE.1 _ q2⟩ ⟨PcM.blind, hPc⟩ rfl hlas hls hstack (lv_room hcats) hd ⟨hRc, hRs⟩⟩
    · have hst9 : am_st y = true := by simpa using hstat
      rw [hst9] at q2
      have q2 : inT (am_pl y).2.1 (.static (am_y y)) = true := q2
      have hlink' : inT (w + am_nlw) (.methodLinkNest (am_own m) i (am_y y) "ContractMachine") = true := by simpa using hlink
      have hh : am_hh y = none := by simpa using hhh
      obtain ⟨v, σ1, hu⟩ := hnt (by simpa using hntc)
      have hcw : codeW y = Cond.code (am_y y) (am_b y) (am_ml y) (am_ret y) := by unfold codeW; rw [hh]
      rw [hcw] at hM hws q1
      have hM' := met_plain hM (fun E st t h => by obtain ⟨k, σ2, h9, -⟩ := h; rw [hu] at h9; cases h9)
      refine ⟨_, vx_of_va (va_runSN (As := as.map (cv base sx)) (rest := st1.map (cv base sx)) (bytes := am_b y) (maxL := am_ml y) (ret := am_ret y) fix hM' ⟨⟨⟨rfl, rfl, hfr', hlo', hws, List.mem_singleton.mpr rfl⟩, kw hE.1 _ q1, kw hE.1 _ q3, ⟨q5, q6⟩, hlenD, kw hE.1 _ hlink'⟩, kw hE.1 _ q2, trivial⟩ ⟨PcM.blind, hPc⟩ rfl hlas hls hstack (lv_room hcats) hd ⟨hRc, hRs⟩)⟩
  · -- with a receiver
    have hlas : (as'.map (cv base sx)).length = b := by
      have h9 : ¬ (cc = 1 ∨ cc = 4) := by
        rcases hk with ⟨h, -⟩ | ⟨h, -⟩ <;> omega
      rw [if_neg h9, has] at hbn
      rw [List.length_map]
      simp at hbn
      omega
    have hstack : (F0 mi pc ls (st.map (cv base sx))).stack = (as'.map (cv base sx)).reverse ++ .ref (base + t) :: st1.map (cv base sx) := by
      show st.map (cv base sx) = _
      rw [hst, List.map_append, List.map_reverse]
      rfl
    have hasv : as.map (cv base sx) = .ref (base + t) :: as'.map (cv base sx) := by rw [has]; rfl
    have hh : am_hh y = none := by
      rcases hk with ⟨h, -⟩ | ⟨h, -⟩
      · subst h; simpa using hhh
      · rcases h with h | h <;> subst h <;> simpa using hhh
    have hcw : codeW y = Cond.code (am_y y) (am_b y) (am_ml y) (am_ret y) := by unfold codeW; rw [hh]
    rw [hcw] at hM hws q1
    rw [hasv] at hPc
    have hrecv : am_st y = false → ∃ cellB : Cell, H[base + t]? = some cellB ∧ cellB.vm.isStatics = false ∧ s.vm.findClass (am_y y).cls = some cellB.cls := fun hs9 => by
      rw [hs9] at q10
      have q10 : (vwCl[am_ci y]?).map (fun q => q.1) = some (am_y y).cls := by simpa using q10
      have h99 : am_ci y ≠ 99 := fun h => by rw [h] at q10; have : vwCl[99]? = none := rfl; rw [this] at q10; cases q10
      obtain ⟨t0, qt, et, hqt, hqa⟩ := okd_at hok h99
      cases et
      obtain ⟨ca, tys, w1, w2, w3, w4, w5⟩ := id hW
      cases hvc : vwCl[am_ci y]? with
      | none => rw [hvc] at q10; cases q10
      | some qc =>
        rw [hvc] at q10
        have hqc : qc.1 = (am_y y).cls := Option.some.inj q10
        rw [← hqc]
        have hlt : qt.1 < 20 := by rw [hqa]; have := (List.getElem?_eq_some_iff.mp hvc).1; have h13 : vwCl.length = 13 := rfl; omega
        exact va_recv w1 w3 hvc (ws_at (e9 := .inr (am_ci y, _)) hqt (by rw [ent_obj hlt, hqa]))
    rcases hk with ⟨rfl, hd⟩ | ⟨hcc, hd⟩
    · have hst9 : am_st y = false ∧ isInit y = false := by simpa using hstat
      rw [hst9.1] at q2
      have q2 : inT (am_pl y).2.1 (.instanceMethod (am_y y)) = true := q2
      have q4 : inT (am_pl y).2.2.2 (.selects (am_y y).cls (am_y y) (am_y y)) = true := by simpa [hst9.1, hst9.2] using q4
      have hlink' : inT (w + am_nlw) (.methodLink (am_own m) i (am_y y)) = true := by simpa using hlink
      exact ⟨_, vx_runV (As := as'.map (cv base sx)) (rest := st1.map (cv base sx)) (b := base + t) (bytes := am_b y) (maxL := am_ml y) (ret := am_ret y) fix hM ⟨⟨rfl, rfl, hfr', hlo', hws, List.mem_singleton.mpr rfl, kw hE.1 _ q1, kw hE.1 _ q3, ⟨q5, q6⟩, hlenD, kw hE.1 _ hlink'⟩, kw hE.1 _ q2, kw hE.1 _ q4⟩ ⟨PcM.blind, hrecv hst9.1, hPc⟩ rfl hlas hls hstack (lv_room hcats) hd ⟨hRc, hRs⟩⟩
    · have hst9 : am_st y = false ∧ isInit y = true := by rcases hcc with rfl | rfl <;> simpa using hstat
      rw [hst9.1] at q2
      have q2 : inT (am_pl y).2.1 (.instanceMethod (am_y y)) = true := q2
      have hname : (am_y y).name = "<init>" := by have := hst9.2; unfold isInit at this; simpa using this
      obtain ⟨v, σ1, hu⟩ := hnt (by rcases hcc with rfl | rfl <;> simpa using hntc)
      have hM' := met_plain hM (fun E st t h => by obtain ⟨k, σ2, h9, -⟩ := h; rw [hu] at h9; cases h9)
      have hretn : am_ret y = none := q11 hst9.2
      rw [hretn] at hM' hws q1
      rcases hcc with rfl | rfl
      · have hlink' : inT (w + am_nlw) (.methodLink (am_own m) i (am_y y)) = true := by simpa using hlink
        exact ⟨_, vx_of_va (va_runI (As := as'.map (cv base sx)) (rest := st1.map (cv base sx)) (b := base + t) (bytes := am_b y) (maxL := am_ml y) fix hM' ⟨⟨rfl, rfl, hfr', hlo', hws, List.mem_singleton.mpr rfl, kw hE.1 _ q1, kw hE.1 _ q3, ⟨q5, q6⟩, hlenD, kw hE.1 _ hlink'⟩, hname, kw hE.1 _ q2⟩ ⟨PcM.blind, hPc⟩ rfl hlas hls hstack (lv_room hcats) hd ⟨hRc, hRs⟩)⟩
      · have hlink' : inT (w + am_nlw) (.methodLinkNest (am_own m) i (am_y y) "ContractMachine") = true := by simpa using hlink
        exact ⟨_, vx_of_va (va_runIN (As := as'.map (cv base sx)) (rest := st1.map (cv base sx)) (b := base + t) (bytes := am_b y) (maxL := am_ml y) fix hM' ⟨⟨⟨rfl, rfl, hfr', hlo', hws, List.mem_singleton.mpr rfl⟩, kw hE.1 _ q1, kw hE.1 _ q3, ⟨q5, q6⟩, hlenD, kw hE.1 _ hlink'⟩, hname, kw hE.1 _ q2⟩ ⟨PcM.blind, hPc⟩ rfl hlas hls hstack (lv_room hcats) hd ⟨hRc, hRs⟩)⟩
end
end SN3

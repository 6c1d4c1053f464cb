/-! SOUNDNESS: whatever a run of the small machine comes to, the JVM comes to -/
section SND
variable (base : Nat) (sx : Nat → Nat) (dC : Nat → ClassId) (dI : Nat → Nat → Nat)
def PcM (σ : Sg) (as : List AV) : Array Value → State → Prop := fun v U => v = (as.map (cv base sx)).toArray ∧ Wd base dC dI σ U U.heap ∧ Ex base sx σ U U.heap ∧ base ≤ U.heap.size ∧ U.heap.size ≤ base + σ.2.2.1
def rv (y : Nat) (v : AV) : Option Value := if am_rt y = 0 then none else some (cv base sx v)
def QcM (y : Nat) (o : Out) : Array Value → State → Outcome → State → Prop := fun _ st oc t => ∃ (v : AV) (σ1 : Sg), o = (.inl v, σ1) ∧ okA v ∧ oc = .returned (rv base sx y v) ∧ Wd base dC dI σ1 t t.heap ∧ va_F (fun q => base ≤ q) st t
def XCM (o : Out) : String → State → State → Prop := fun E st t => ∃ (k : Nat) (σ1 : Sg), o = (.inr k, σ1) ∧ E = am_exn.getD k "" ∧ Wd base dC dI σ1 t t.heap ∧ va_F (fun q => base ≤ q) st t
def rmM (y : Nat) (o : Out) (σ : Sg) : Room := { frames := am_fr y, cells := o.2.2.2.1 - σ.2.2.1, slots := o.2.2.2.2.1 - σ.2.2.2.1, locals := am_lo y }
def TB (m : Nat) (c : Code) : Prop := (am_hh m = none → ∀ x ∈ c.exceptionTable.toList, False) ∧ ∀ hh, am_hh m = some hh → c.exceptionTable.toList = tableOf hh
def HE (p : Program) (l : Launch) (e : Env) (R : Room) (s : State) (mi : MethodId) (args : Array Value) (below : List Frame) (meth : Method) (c : Code) (Q : State → Prop) (m n0 m0 : Nat) (o : Out) : Prop := ∀ (v : AV) (σ1 : Sg), o = (.inl v, σ1) → ∀ (H : Heap) (locs : List Loc) (cells slots : Nat) (ls : Array Slot) (pc : Nat) (st : List AV), RetAt m pc st v → okA v → Wd base dC dI σ1 s H → va_S (fun q => base ≤ q) s.heap H locs → cells + n0 = σ1.2.2.1 → slots + m0 = σ1.2.2.2.1 →
  W p l e R s mi args below meth c H locs cells slots Q (F0 mi pc ls (st.map (cv base sx)))
def HT (s : State) (args : Array Value) (below : List Frame) (Q : State → Prop) (n0 m0 : Nat) (o : Out) : Prop := ∀ (E : Nat) (σ1 : Sg), o = (.inr E, σ1) → ∃ (Qc : Array Value → State → Outcome → State → Prop) (XC : String → State → State → Prop) (mc ms : Nat), Q = vx_MQ below Qc XC args s mc ms (fun q => base ≤ q) ∧ σ1.2.2.1 ≤ n0 + mc ∧ σ1.2.2.2.1 ≤ m0 + ms ∧ ∀ t : State, s.vm.Alike t.vm → Wd base dC dI σ1 t t.heap → va_F (fun q => base ≤ q) s t → XC (am_exn.getD E "") s t
def PN (l : Launch) (n : Nat) : Prop := ∀ (m pc : Nat) (al st : List AV) (σ : Sg) (o : Out), run n m pc al st σ = some o → ∀ (p : Program) (e : Env) (R : Room) (s : State) (mi : MethodId) (args : Array Value) (below : List Frame) (meth : Method) (c : Code) (Q : State → Prop) (n0 m0 : Nat), CX p l R s mi meth c m → TB m c → HE base sx dC dI p l e R s mi args below meth c Q m n0 m0 o → HT base dC dI s args below Q n0 m0 o → (base ≤ s.heap.size ∧ s.heap.size ≤ base + n0) → Ex base sx σ s s.heap → o.2.2.2.1 ≤ n0 + R.cells → o.2.2.2.2.1 ≤ m0 + R.slots →
  Kt base sx dC dI p l e R s mi args below meth c Q m n0 m0 pc al st σ
end SND
section SN2
variable {base : Nat} {sx : Nat → Nat} {dC : Nat → ClassId} {dI : Nat → Nat → Nat}
theorem Wd.moved {σ : Sg} {u U : State} {H : Heap} (hvm : u.vm.Alike U.vm) (h : Wd base dC dI σ u H) : Wd base dC dI σ U H := by
  obtain ⟨ca, tys, h1, h2⟩ := h
  exact ⟨ca, tys, va_K.moved hvm h1, h2⟩
theorem PcM.blind {σ : Sg} {as : List AV} : FrameBlind (PcM base sx dC dI σ as) := fun a U g mk q => by
  obtain ⟨h1, h2, h3, h4, h5⟩ := q
  exact ⟨h1, Wd.moved (u := U) (U := U.calling g mk a) (Vm.Alike.refl U.vm) h2, Ex.go (s := U) (U := U.calling g mk a) (State.WarmedH.refl U) (fun _ _ _ => rfl) rfl h3, h4, h5⟩
theorem Wd.keep {σ σ1 : Sg} {s : State} {H H1 : Heap} (h : Wd base dC dI σ s H) (h1 : σ1.1 = σ.1) (h2 : σ1.2.1 = σ.2.1) (hk : ∀ q, q < H.size → H1[q]? = H[q]?) : Wd base dC dI σ1 s H1 := by
  obtain ⟨K, h9, r⟩ := σ
  obtain ⟨K1, h91, r1⟩ := σ1
  dsimp only at h1 h2
  subst h1; subst h2
  obtain ⟨ca, tys, w1, w2, w3, w4, w5⟩ := h
  exact ⟨ca, tys, w1, w2, w3.kept (fun k x hx => hk x.1 ((w3 k x hx).lt)), w4, w5⟩
theorem met_plain {l : Launch} {y : MethodName} {ws : List Jvm.Cond} {rm : Room} {Pc : Array Value → State → Prop} {Qc : Array Value → State → Outcome → State → Prop} {XC : String → State → State → Prop} {mc ms : Nat} {free : Addr → Prop} (hM : vx_Met l y ws rm Pc Qc XC mc ms free) (hx : ∀ E st t, ¬ XC E st t) : Met l y ws rm Pc Qc mc ms free := by
  intro p e a1 a2 a3 s m args below h1 h2 h3 h4
  obtain ⟨n, o, w1, w2, w3, hq⟩ := hM p e a1 a2 a3 s m args below h1 h2 h3 h4
  rcases hq with hq | ⟨q, -, E, ce, L, hq, -⟩
  · exact ⟨n, o, w1, w2, w3, hq⟩
  · exact absurd hq (hx _ _ _)
section
variable {p : Program} {l : Launch} {e : Env} {R : Room} {s : State} {mi : MethodId} {args : Array Value} {below : List Frame} {meth : Method} {c : Code} {Q : State → Prop} {m n0 m0 : Nat} {H : Heap} {locs : List Loc} {cells slots : Nat}
theorem vx_of_va {mc ms : Nat} {g : JFrame} {rest : List Value} {Qa : State → Outcome → State → Prop} {XC : String → State → State → Prop} {free : Addr → Prop} (h : va_Run p l e R s mi args below meth c H locs cells slots mc ms g rest Qa free) : vx_Run p l e R s mi args below meth c H locs cells slots mc ms g rest Qa XC free := fun T hT X => Or.inl (h T hT X)
theorem go_call {pc y mc ms : Nat} {ls : Array Slot} {st0 rest : List Value} {a : Array Value} {u : Out} (hr : vx_Run p l e R s mi args below meth c H locs cells slots mc ms (F0 mi pc ls st0) rest (QcM base sx dC dI y u a) (XCM base dC dI u) (fun q => base ≤ q)) (hS : va_S (fun q => base ≤ q) s.heap H locs)
    (kx : ∀ (k : Nat) (σ2 : Sg) (ce : Cell) (q : Addr) (H1 : Heap) (locs1 : List Loc), u = (.inr k, σ2) → Wd base dC dI σ2 s H1 → va_S (fun q => base ≤ q) s.heap H1 locs1 → H1[q]? = some ce → ce.vm = .none → s.vm.findClass (am_exn.getD k "") = some ce.cls → vx_W p l e R s mi args below meth c H1 locs1 (cells + mc) (slots + ms) Q (F0 mi pc ls rest) q)
    (kk : ∀ (v : AV) (σ2 : Sg) (H1 : Heap) (locs1 : List Loc), u = (.inl v, σ2) → okA v → Wd base dC dI σ2 s H1 → va_S (fun q => base ≤ q) s.heap H1 locs1 → W p l e R s mi args below meth c H1 locs1 (cells + mc) (slots + ms) Q (F0 mi (pc + 3) ls ((rv base sx y v).toList ++ rest))) : W p l e R s mi args below meth c H locs cells slots Q (F0 mi pc ls st0) := by
  intro T hT X
  rcases hr T hT X with ⟨v, st₀, t, T', L, h0, X', hL, e1, e2, ⟨v1, σ2, hu, hok, hv, hw, hF⟩, st⟩ | ⟨q, st₀, t, T', L, E, ce, h0, X', hL, e1, e2, ⟨k, σ2, hu, hE, hw, hF⟩, hce, hcv, hcl, st⟩
  · cases hv
    obtain ⟨k1, k2, k3⟩ := vx_keep h0 e1 hS (fun _ _ h => h) (fun _ h => h) hL hF
    have hw2 : Wd base dC dI σ2 s T'.heap := by
      rw [e1]
      exact hw.moved (by rw [← e2]; exact X'.warmed.alike.symm)
    obtain ⟨t2, a1, b1⟩ := kk v1 σ2 T'.heap (locs ++ L) hu hok hw2 k3 T' rfl X'
    exact ⟨t2, st t2 a1, b1⟩
  · subst hE
    obtain ⟨k1, k2, k3⟩ := vx_keep h0 e1 hS (fun _ _ h => h) (fun _ h => h) hL hF
    have hw2 : Wd base dC dI σ2 s T'.heap := by
      rw [e1]
      exact hw.moved (by rw [← e2]; exact X'.warmed.alike.symm)
    obtain ⟨t2, a1, b1⟩ := kx k σ2 ce q T'.heap (locs ++ L) hu hw2 k3 (by rw [e1]; exact hce) hcv hcl T' rfl X'
    exact ⟨t2, st.trans a1, b1⟩
/-- the end of a method that a contract speaks of -/
theorem ret_MQ (TAB : TabOK) (hm : m < 312) (C : CX p l R s mi meth c m) {v : AV} {σ1 : Sg} {XC : String → State → State → Prop} {pc : Nat} {st : List AV} {ls : Array Slot} (hq : RetAt m pc st v) (hok : okA v) (hW : Wd base dC dI σ1 s H) (hS : va_S (fun q => base ≤ q) s.heap H locs) : W p l e R s mi args below meth c H locs cells slots (vx_MQ below (QcM base sx dC dI m (.inl v, σ1)) XC args s cells slots (fun q => base ≤ q)) (F0 mi pc ls (st.map (cv base sx))) := by
  have hch := TAB.1 m hm
  simp only [mchk, Bool.and_eq_true, decide_eq_true_eq] at hch
  have hrt : rtOf m = am_ret m := hch.1.1.1.2
  have hret := C.2.2.1
  have hF : ∀ t : State, t.heap = H → va_F (fun q => base ≤ q) s t := fun t ht => hS.F ht
  have hWt : ∀ t : State, t.heap = H → s.WarmedH t.vm → Wd base dC dI σ1 t t.heap := fun t ht hw => by rw [ht]; exact hW.moved hw.alike
  rcases hq with ⟨hd, rfl, x, rfl, hr⟩ | ⟨hd, rfl, x, rfl, hr⟩ | ⟨hd, rfl, x, rfl, hr⟩ | ⟨hd, rfl, rfl, hr⟩
  · have hrv : rv base sx m (AI x) = some (.int (Int32.ofInt x)) := by unfold rv; rw [if_neg (by omega)]; rfl
    rcases hr with hr | ⟨hr, hx⟩
    · exact vx_ret (W.iret C.1 C.2.1 (by rw [hret, ← hrt]; simp only [rtOf, hr]) (fun t ht hw => ⟨AI x, σ1, rfl, hok, by rw [hrv], hWt t ht hw, hF t ht⟩) hS.2.2 hd C.2.2.2.2.2.1)
    · exact vx_ret (W.zret (ty := .boolean) C.1 C.2.1 (by rw [hret, ← hrt]; simp only [rtOf, hr]) (by rcases hx with rfl | rfl <;> rfl) (fun t ht hw => ⟨AI x, σ1, rfl, hok, by rw [hrv], hWt t ht hw, hF t ht⟩) hS.2.2 hd C.2.2.2.2.2.1)
  · have hrv : rv base sx m (AF x) = some (.float x) := by unfold rv; rw [if_neg (by omega)]; rfl
    exact vx_ret (W.fret C.1 C.2.1 (by rw [hret, ← hrt]; simp only [rtOf, hr]) (fun t ht hw => ⟨AF x, σ1, rfl, hok, by rw [hrv], hWt t ht hw, hF t ht⟩) hS.2.2 hd C.2.2.2.2.2.1)
  · have hrv : rv base sx m (AD x) = some (.double x) := by unfold rv; rw [if_neg (by omega)]; rfl
    exact vx_ret (W.dret C.1 C.2.1 (by rw [hret, ← hrt]; simp only [rtOf, hr]) (fun t ht hw => ⟨AD x, σ1, rfl, hok, by rw [hrv], hWt t ht hw, hF t ht⟩) hS.2.2 hd C.2.2.2.2.2.1)
  · have hrv : rv base sx m AU = none := by unfold rv; rw [if_pos hr]
    exact vx_ret (W.vret C.1 C.2.1 (by rw [hret, ← hrt]; simp only [rtOf, hr]) (fun t ht hw => ⟨AU, σ1, rfl, hok, by rw [hrv], hWt t ht hw, hF t ht⟩) hS.2.2 hd C.2.2.2.2.2.1)
/-- a throw statement -/
theorem throw_MQ (TAB : TabOK) (C : CX p l R s mi meth c m) (hTB : TB m c) {σ : Sg} (hE : Ex base sx σ s s.heap) {r : Nat × Nat × Nat × Nat × Nat × Nat × Nat} (hr : r ∈ am_thrs) (hr1 : r.1 = m) {pc : Nat} (hr2 : r.2.1 = pc) {Qc : Array Value → State → Outcome → State → Prop} {XC : String → State → State → Prop} {mc ms : Nat} {st : List AV} {al : List AV} {ls : Array Slot} (hst : acats st ≤ 8) (hL : LH base sx ls al) (hn : al.length = am_ml m)
    (hW : Wd base dC dI σ s H) (hS : va_S (fun q => base ≤ q) s.heap H locs) (hmc : cells + 1 ≤ mc) (hms : slots + 6 ≤ ms) (hRc : cells + 1 ≤ R.cells) (hRs : slots + 6 ≤ R.slots) (hX : ∀ t : State, s.vm.Alike t.vm → Wd base dC dI (bump σ) t t.heap → va_F (fun q => base ≤ q) s t → XC (am_exn.getD r.2.2.1 "") s t) :
    W p l e R s mi args below meth c H locs cells slots (vx_MQ below Qc XC args s mc ms (fun q => base ≤ q)) (F0 mi pc ls (st.map (cv base sx))) := by
  subst hr1
  subst hr2
  have hch := TAB.2.2.2.1 r hr
  obtain ⟨m, pc, E, ik, is, ic, k⟩ := r
  simp only [thchk, Bool.and_eq_true, decide_eq_true_eq] at hch
  obtain ⟨⟨⟨⟨⟨⟨⟨⟨⟨⟨⟨⟨d0, d3⟩, d4⟩, d7⟩, d10⟩, hs1⟩, hs2⟩, hfit⟩, hfr⟩, hlo⟩, hE4⟩, hhh⟩, hws⟩ := hch
  obtain ⟨tx, hv⟩ := k_ldcS C hE (i := is) (a := k) (by simp only [Bool.and_eq_true, decide_eq_true_eq]; exact ⟨hs1, hs2⟩)
  have hww : ∀ w ∈ Cond.classLink (am_own m) ik (am_exn.getD E "") :: Cond.initialized (am_exn.getD E "") :: vx_atX (am_own m) ic (am_exn.getD E "") (am_cxi E) (am_cxb E) ["java/lang/RuntimeException", "java/lang/Exception"], okW w = true ∧ w ∈ lw_tbl := fun w hw => by
    have h9 := List.all_eq_true.mp hws w hw
    simp only [Bool.and_eq_true, decide_eq_true_eq] at h9
    exact h9
  have hwb : ∀ w ∈ Cond.classLink (am_own m) ik (am_exn.getD E "") :: Cond.initialized (am_exn.getD E "") :: vx_atX (am_own m) ic (am_exn.getD E "") (am_cxi E) (am_cxb E) ["java/lang/RuntimeException", "java/lang/Exception"], w.before args s = true := fun w hw => okW_use (hww w hw).1 (hE.1 w (hww w hw).2 (hww w hw).1)
  have hwo : ∀ w ∈ Cond.classLink (am_own m) ik (am_exn.getD E "") :: Cond.initialized (am_exn.getD E "") :: vx_atX (am_own m) ic (am_exn.getD E "") (am_cxi E) (am_cxb E) ["java/lang/RuntimeException", "java/lang/Exception"], vx_ot w = true := fun w hw => by
    have h9 := (hww w hw).1
    simp only [okW, Bool.and_eq_true] at h9
    unfold vx_ot
    rw [h9.1]
    rfl
  have c8 : am_fr m ≤ R.frames := C.2.2.2.2.2.2.2.1
  have c9 : am_lo m ≤ R.locals := C.2.2.2.2.2.2.2.2.1
  obtain ⟨x0, x1, x2, x5⟩ := am_cx0 E
  refine vx_throwSWX C.1 C.2.1 C.2.2.2.2.2.2.2.2.2 x0 x1 x2 x5 C.2.2.2.1 hfit (by decide) (hwb _ List.mem_cons_self) (hwb _ (List.mem_cons_of_mem _ List.mem_cons_self)) hv (fun w hw => hwb w (List.mem_cons_of_mem _ (List.mem_cons_of_mem _ hw))) hwo hE.2.2.2.2.2.2.2.1 hE.2.2.2.2.2.2.2.2.1 hS (hL.1.trans (hn.trans C.2.2.2.2.1.symm)) d0 d3 d4 d7 d10 (fun x hx => absurd (hTB.1 hhh x hx) id) ?_ ?_ hRc hRs C.2.2.2.2.2.1 (fun t h1 h2 h3 => hX t h1 ?_ ?_) hS.2.2 hmc hms
  · show 2 + 3 < R.frames
    omega
  · rw [cats_cv]
    show acats st + (13 * (2 + 1) + 43) ≤ R.locals
    omega
  · exact (hW.keep rfl rfl h3).moved h1
  · exact ⟨Nat.le_trans hS.1 h2, fun q q1 q2 => (h3 q (Nat.lt_of_lt_of_le q1 hS.1)).trans (hS.2.1 q q1 q2)⟩
end
end SN2

/-! What the owed statement says of the room: at every start that it allows, the run of the law ends with at most 750,793 cells more than it began with (its frame: no more new cells than the room). -/
theorem pb_bound (hc : Claimed_1_1) (l : Launch) (hf : l.flags = flags0) (hl : Lists l classFile x code maxLocals ret tables_1 room_1) (p : Program) (e : Env) (ha : l.admits e) (h1 : FairCas e.choices) (h2 : FairClock e.choices)
    (s : State) (m : MethodId) (args : Array Value) (below : List Frame) (hs : s.frames = Frame.invoking m args :: below) (h3 : argsFit s.vm m args = true) (h4 : heapFits s = true)
    (h5 : (headSpec (Cond.code x code maxLocals ret :: tables_1) room_1).applies x e.platform s = true) (h6 : Calls_1 p.tables e args s) (h7 : rest_1 p.tables e args s) (h8 : Pre_1 p.tables e args s) :
    ∃ (n : Nat) (o : Outcome), (∀ k, k < n → Within (stepsAlone p.tables e k s) below) ∧ Ended (stepsAlone p.tables e n s) below o ∧ (stepsAlone p.tables e n s).heap.size ≤ s.heap.size + 750793 := by
  obtain ⟨n, o, hw, _, he, hp⟩ := hc l hf hl trivial p e ha h1 h2 s m args below hs h3 h4 h5 ⟨h6, h7, h8⟩
  obtain ⟨_, hfr⟩ := hp
  exact ⟨n, o, hw, he, hfr.2.2.2.2.1⟩

/-! ROWS: a step of the small machine is a step of the JVM -/
def okA (v : AV) : Prop := match v with
  | .inl x => inR x
  | .inr (.inr (.inl x)) => inR x
  | _ => True
def CX (p : Program) (l : Launch) (R : Room) (s : State) (mi : MethodId) (meth : Method) (c : Code) (m : Nat) : Prop := p.tables.exec = Jvm.exec ∧ c.code = am_b m ∧ meth.sig.returnType = am_ret m ∧ s.vm.findClass (am_own m) = some mi.cls ∧ c.maxLocals = am_ml m ∧ meth.locks = false ∧ (isInit m = true → meth.name = "<init>") ∧ am_fr m ≤ R.frames ∧ am_lo m ≤ R.locals ∧ l.stackTraces = false
section WL
variable {base : Nat} {sx : Nat → Nat} {dC : Nat → ClassId} {dI : Nat → Nat → Nat}
theorem wsOf_get {ca : Nat → ClassId} {σ : Sg} {i : Nat} : (wsOf base ca σ)[i]? = (σ.1[i]?).map (fun q => (base + i, entE base ca σ (i + 1) q)) := by
  unfold wsOf
  rw [List.getElem?_mapIdx]
theorem okd_at {σ : Sg} {k c : Nat} (h : okd σ k = c) (hc : c ≠ 99) : ∃ (k0 : Nat) (q : AKd), k = k0 + 1 ∧ σ.1[k0]? = some q ∧ q.1 = c := by
  unfold okd kd at h
  cases k with
  | zero => exact absurd h.symm hc
  | succ k0 =>
    cases hq : σ.1[k0]? with
    | none => simp only [hq] at h; exact absurd h.symm hc
    | some q => simp only [hq] at h; exact ⟨k0, q, rfl, hq, h⟩
theorem oln_at {σ : Sg} {k0 : Nat} {q : AKd} (h : σ.1[k0]? = some q) : oln σ (k0 + 1) = (q.2.1 : Int) := by
  simp only [oln, kd, h]
theorem orf_at {σ : Sg} {k0 j : Nat} {q : AKd} (h : σ.1[k0]? = some q) : orf σ (k0 + 1) j = q.2.2.getD j 0 := by
  simp only [orf, kd, h]
theorem entE_congr {ca ca' : Nat → ClassId} {σ σ' : Sg} {k : Nat} {q : AKd} (hc : ca' k = ca k) (hg : ∀ j, get σ' k j = get σ k j) : entE base ca' σ' k q = entE base ca σ k q := by
  have hf : fval base σ' k q = fval base σ k q := by
    funext j
    unfold fval
    rw [hg]
  unfold entE
  rw [hf, hc]
  simp only [hg]
theorem wsOf_set {ca : Nat → ClassId} {σ σ' : Sg} {k0 : Nat} {q' : AKd} (h1 : σ'.1 = σ.1.set k0 q') (hk : k0 < σ.1.length) (h2 : ∀ i j, i ≠ k0 → get σ' (i + 1) j = get σ (i + 1) j) : wsOf base ca σ' = (wsOf base ca σ).set k0 (base + k0, entE base ca σ' (k0 + 1) q') := by
  apply List.ext_getElem?
  intro i
  rw [wsOf_get, h1]
  by_cases e : i = k0
  · subst e
    rw [List.getElem?_set_self hk, List.getElem?_set_self (by simpa [wsOf] using hk)]
    rfl
  · rw [List.getElem?_set_ne (Ne.symm e), List.getElem?_set_ne (Ne.symm e), wsOf_get]
    cases σ.1[i]? with
    | none => rfl
    | some q =>
      exact congrArg (fun z => some (base + i, z)) (entE_congr rfl (fun j => h2 i j e))
theorem set_same {α : Type} {l : List α} {i : Nat} {x : α} (h : l[i]? = some x) : l.set i x = l := by
  apply List.ext_getElem?
  intro j
  by_cases e : j = i
  · subst e
    rw [List.getElem?_set_self (List.getElem?_eq_some_iff.mp h).1, h]
  · rw [List.getElem?_set_ne (Ne.symm e)]
theorem wsOf_push {ca : Nat → ClassId} {σ σ' : Sg} {q : AKd} {cA : ClassId} (h1 : σ'.1 = σ.1 ++ [q]) (h2 : ∀ k j, k ≤ σ.1.length → get σ' k j = get σ k j) : wsOf base (va_up ca (σ.1.length + 1) cA) σ' = wsOf base ca σ ++ [(base + σ.1.length, entE base (va_up ca (σ.1.length + 1) cA) σ' (σ.1.length + 1) q)] := by
  apply List.ext_getElem?
  intro i
  rw [wsOf_get, h1]
  have hl : (wsOf base ca σ).length = σ.1.length := by simp [wsOf]
  by_cases e : i < σ.1.length
  · rw [List.getElem?_append_left e, List.getElem?_append_left (by rw [hl]; exact e), wsOf_get]
    cases σ.1[i]? with
    | none => rfl
    | some q =>
      exact congrArg (fun z => some (base + i, z)) (entE_congr (va_up_ne _ _ (by omega)) (fun j => h2 (i + 1) j (by omega)))
  · rw [List.getElem?_append_right (by omega), List.getElem?_append_right (by rw [hl]; omega), hl]
    by_cases e2 : i = σ.1.length
    · subst e2
      rw [Nat.sub_self]
      rfl
    · rw [List.getElem?_eq_none (by simp; omega), List.getElem?_eq_none (by simp; omega)]
      rfl
/-- the world behind a write into an object's cell -/
theorem Wd.set {σ σ' : Sg} {s : State} {H1 : Heap} {k0 : Nat} {q q' : AKd} (hq : σ.1[k0]? = some q) (hK : q'.1 = q.1 ∧ q'.2.1 = q.2.1 ∧ q'.2.2.length = q.2.2.length) (h1 : σ'.1 = σ.1.set k0 q') (h2 : ∀ i j, i ≠ k0 → get σ' (i + 1) j = get σ (i + 1) j) (hr : ∀ k j, inR (get σ' k j))
    {ca : Nat → ClassId} {tys : List (ClassId × FieldType)} (w1 : va_K (dC, dI) vwCl tys s) (w2 : ∀ (i : Nat) (q : AKd), σ.1[i]? = some q → kdOK q ∧ (20 ≤ q.1 → ∃ t0 : Nat, tys[t0]? = some (ca (i + 1), aty q.1))) (w3 : va_P (dC, dI) vwCl ((wsOf base ca σ).set k0 (base + k0, entE base ca σ' (k0 + 1) q')) H1) (w4 : va_D (fun q => base ≤ q) ((wsOf base ca σ).set k0 (base + k0, entE base ca σ' (k0 + 1) q'))) : Wd base dC dI σ' s H1 := by
  have hk : k0 < σ.1.length := (List.getElem?_eq_some_iff.mp hq).1
  refine ⟨ca, tys, w1, fun i z hz1 => ?_, by rw [wsOf_set h1 hk h2]; exact w3, by rw [wsOf_set h1 hk h2]; exact w4, hr⟩
  · rw [h1] at hz1
    by_cases e : i = k0
    · subst e
      rw [List.getElem?_set_self hk] at hz1
      cases hz1
      obtain ⟨g1, g2⟩ := w2 i q hq
      refine ⟨?_, fun h => by rw [hK.1]; exact g2 (by rw [← hK.1]; exact h)⟩
      unfold kdOK at g1 ⊢
      rw [hK.1, hK.2.1, hK.2.2]
      exact g1
    · rw [List.getElem?_set_ne (Ne.symm e)] at hz1
      exact w2 i z hz1
theorem get_put {σ : Sg} {k j : Nat} {v : Int} (a b : Nat) : get (put σ k j v) a b = if a = k ∧ b = j then v else get σ a b := rfl
end WL
section KT
variable (base : Nat) (sx : Nat → Nat) (dC : Nat → ClassId) (dI : Nat → Nat → Nat)
theorem W.size {p : Program} {l : Launch} {e : Env} {R : Room} {s : State} {mi : MethodId} {args : Array Value} {below : List Frame} {meth : Method} {c : Code} {H : Heap} {locs : List Loc} {cells slots : Nat} {Q : State → Prop} {g : JFrame} (k : H.size ≤ s.heap.size + cells → W p l e R s mi args below meth c H locs cells slots Q g) : W p l e R s mi args below meth c H locs cells slots Q g := fun T hT X => k (hT ▸ X.heapSize) T hT X
/-- from every JVM state that holds this state of the small machine, Q is reached -/
def Kt (p : Program) (l : Launch) (e : Env) (R : Room) (s : State) (mi : MethodId) (args : Array Value) (below : List Frame) (meth : Method) (c : Code) (Q : State → Prop) (m n0 m0 pc : Nat) (al st : List AV) (σ : Sg) : Prop :=
  ∀ (H : Heap) (locs : List Loc) (cells slots : Nat) (ls : Array Slot), LH base sx ls al → al.length = am_ml m → (∀ v ∈ al, okA v) → (∀ v ∈ st, okA v) → Wd base dC dI σ s H → va_S (fun q => base ≤ q) s.heap H locs → cells + n0 = σ.2.2.1 → slots + m0 = σ.2.2.2.1 →
    W p l e R s mi args below meth c H locs cells slots Q (F0 mi pc ls (st.map (cv base sx)))
end KT

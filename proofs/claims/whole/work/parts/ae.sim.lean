/-! what runs beside more objects runs without them -/
section A
variable {K2 : List AKd} {n : Nat} {σ : Sg} {m pc : Nat} {ls st : List AV} {a b c : Nat}
def rfA (n : Nat) : AV → Prop := fun v => ∀ k, v = AR k → k ≤ n
def clK (K : List AKd) (n : Nat) : Prop := ∀ e ∈ K, ∀ r ∈ e.2.2, r ≤ n
def upS (K2 : List AKd) (σ : Sg) : Sg := (σ.1 ++ K2, σ.2)
def StN (n : Nat) (σ : Sg) : Prop := clK σ.1 n ∧ σ.1.length = n
def rfL (n : Nat) (l : List AV) : Prop := ∀ v ∈ l, rfA n v
def upT (K2 : List AKd) (q : ST) : ST := match q with
  | .inl (pc, ls, st, σ) => .inl (pc, ls, st, upS K2 σ)
  | .inr (.inl (y, as, pc, ls, st, σ)) => .inr (.inl (y, as, pc, ls, st, upS K2 σ))
  | .inr (.inr (.inl (v, σ))) => .inr (.inr (.inl (v, upS K2 σ)))
  | .inr (.inr (.inr (E, σ))) => .inr (.inr (.inr (E, upS K2 σ)))
def okT (n : Nat) (q : ST) : Prop := match q with
  | .inl (_, ls, st, σ) => rfL n ls ∧ rfL n st ∧ StN n σ
  | .inr (.inl (_, as, _, ls, st, σ)) => rfL n as ∧ rfL n ls ∧ rfL n st ∧ StN n σ
  | .inr (.inr (.inl (v, σ))) => rfA n v ∧ StN n σ
  | .inr (.inr (.inr (_, σ))) => StN n σ
def SimO (K2 : List AKd) (n : Nat) (x y : Option ST) : Prop := ∀ q, x = some q → ∃ q1, y = some q1 ∧ q = upT K2 q1 ∧ okT n q1
theorem rfA_I {x : Int} : rfA n (AI x) := fun k e => by cases e
theorem rfA_L {x : Int} : rfA n (AL x) := fun k e => by cases e
theorem rfA_F {x : UInt32} : rfA n (AF x) := fun k e => by cases e
theorem rfA_D {x : UInt64} : rfA n (AD x) := fun k e => by cases e
theorem rfA_S {x : Nat} : rfA n (AS x) := fun k e => by cases e
theorem rfA_U : rfA n AU := fun k e => by cases e
theorem rfA_R {k : Nat} (h : k ≤ n) : rfA n (AR k) := fun j e => by cases e; exact h
theorem rfL_nil : rfL n [] := fun v h => nomatch h
theorem rfL_c {v : AV} {l : List AV} (h : rfA n v) (g : rfL n l) : rfL n (v :: l) := List.forall_mem_cons.mpr ⟨h, g⟩
theorem rfL.t {v : AV} {l : List AV} (h : rfL n (v :: l)) : rfL n l := fun x hx => h x (List.mem_cons_of_mem _ hx)
theorem rfL.h {v : AV} {l : List AV} (h : rfL n (v :: l)) : rfA n v := h v List.mem_cons_self
theorem rfL.r {k : Nat} {l : List AV} (h : rfL n (.inr (.inl k) :: l)) : k ≤ n := h.h k rfl
theorem rfL.g {l : List AV} {i : Nat} {v : AV} (h : rfL n l) (e : l[i]? = some v) : rfA n v := h v (List.mem_of_getElem? e)
theorem rfL_set {l : List AV} {i : Nat} {v : AV} (h : rfL n l) (g : rfA n v) : rfL n (l.set i v) := fun x hx => by
  rcases List.mem_or_eq_of_mem_set hx with h1 | h1
  · exact h x h1
  · rw [h1]; exact g
theorem rfA_k2 {v : AV} (h : rfA n v) : rfA n (k2 v) := by
  unfold k2
  split
  · exact h
  · exact rfA_U
theorem rfL_mod {l : List AV} {i : Nat} (h : rfL n l) : rfL n (l.modify i k2) := fun x hx => by
  obtain ⟨j, hj⟩ := List.mem_iff_getElem?.mp hx
  rw [List.getElem?_modify] at hj
  cases e : l[j]? with
  | none => rw [e] at hj; cases hj
  | some y =>
    rw [e] at hj
    have hy := h y (List.mem_of_getElem? e)
    have hj2 := Option.some.inj hj
    rw [← hj2]
    dsimp only
    split
    · exact rfA_k2 hy
    · exact hy
theorem rfL_sto {l : List AV} {i : Nat} {v : AV} (h : rfL n l) (g : rfA n v) : rfL n (sto l i v) := by
  unfold sto
  cases i with
  | zero => exact rfL_set h g
  | succ i => exact rfL_set (rfL_mod h) g
theorem rfL_sto2 {l : List AV} {i : Nat} {v : AV} (h : rfL n l) (g : rfA n v) : rfL n (sto2 l i v) := rfL_set (rfL_sto h g) rfA_U
theorem kd_up (hS : StN n σ) {k : Nat} (hk : k ≤ n) : kd (upS K2 σ) k = kd σ k := by
  cases k with
  | zero => rfl
  | succ k =>
    show (σ.1 ++ K2)[k]? = σ.1[k]?
    exact List.getElem?_append_left (by have := hS.2; omega)
theorem okd_up (hS : StN n σ) {k : Nat} (hk : k ≤ n) : okd (upS K2 σ) k = okd σ k := by unfold okd; rw [kd_up hS hk]
theorem oln_up (hS : StN n σ) {k : Nat} (hk : k ≤ n) : oln (upS K2 σ) k = oln σ k := by unfold oln; rw [kd_up hS hk]
theorem orf_up (hS : StN n σ) {k j : Nat} (hk : k ≤ n) : orf (upS K2 σ) k j = orf σ k j := by unfold orf; rw [kd_up hS hk]
theorem orf_le (hS : StN n σ) {k j : Nat} : orf σ k j ≤ n := by
  unfold orf
  cases e : kd σ k with
  | none => exact Nat.zero_le _
  | some q =>
    obtain ⟨q1, q2, rs⟩ := q
    show rs.getD j 0 ≤ n
    cases k with
    | zero => cases e
    | succ k =>
      have h1 := hS.1 _ (List.mem_of_getElem? (show σ.1[k]? = some (q1, q2, rs) from e))
      rw [List.getD_eq_getElem?_getD]
      cases e2 : rs[j]? with
      | none => exact Nat.zero_le _
      | some x => exact h1 x (List.mem_of_getElem? e2)
theorem StN_putr (hS : StN n σ) {k j r : Nat} (hr : r ≤ n) : StN n (putr σ k j r) := by
  cases k with
  | zero => exact hS
  | succ k =>
    refine ⟨fun e he x hx => ?_, (List.length_modify _ _ _).trans hS.2⟩
    obtain ⟨i, hi⟩ := List.mem_iff_getElem?.mp he
    have hi : (σ.1.modify k (fun q => (q.1, q.2.1, q.2.2.set j r)))[i]? = some e := hi
    rw [List.getElem?_modify] at hi
    cases e9 : σ.1[i]? with
    | none => rw [e9] at hi; cases hi
    | some y =>
      rw [e9] at hi
      have hy := hS.1 y (List.mem_of_getElem? e9)
      have hj2 := Option.some.inj hi
      rw [← hj2] at hx
      dsimp only at hx
      split at hx
      · rcases List.mem_or_eq_of_mem_set hx with h1 | h1
        · exact hy x h1
        · rw [h1]; exact hr
      · exact hy x hx
theorem mod_app {α : Type} {f : α → α} {l2 : List α} : ∀ {l : List α} {k : Nat}, k < l.length → (l ++ l2).modify k f = l.modify k f ++ l2
  | [], k, h => absurd h (Nat.not_lt_zero _)
  | x :: l, 0, _ => rfl
  | x :: l, k + 1, h => by
    have ih := mod_app (f := f) (l2 := l2) (l := l) (k := k) (Nat.lt_of_succ_lt_succ h)
    simp only [List.cons_append, List.modify_succ_cons, ih]
theorem putr_up (hS : StN n σ) {k j r : Nat} (hk : k ≤ n) : putr (upS K2 σ) k j r = upS K2 (putr σ k j r) := by
  cases k with
  | zero => rfl
  | succ k =>
    show (List.modify (σ.1 ++ K2) k _, σ.2) = (List.modify σ.1 k _ ++ K2, σ.2)
    rw [mod_app (by have := hS.2; omega)]
theorem SimO_none {y : Option ST} : SimO K2 n none y := fun q h => nomatch h
theorem SimO_nx {pc : Nat} {ls st : List AV} (h1 : rfL n ls) (h2 : rfL n st) (h3 : StN n σ) : SimO K2 n (nx pc ls st (upS K2 σ)) (nx pc ls st σ) := fun q h => by
  cases h
  exact ⟨_, rfl, rfl, h1, h2, h3⟩
theorem SimO_jmp {pc : Nat} {off : Int} {ls st : List AV} (h1 : rfL n ls) (h2 : rfL n st) (h3 : StN n σ) : SimO K2 n (jmp pc off ls st (upS K2 σ)) (jmp pc off ls st σ) := by
  unfold jmp
  split
  · exact SimO_nx h1 h2 h3
  · exact SimO_none
theorem SimO_ite {p : Prop} [Decidable p] {x y x1 y1 : Option ST} (h1 : p → SimO K2 n x x1) (h2 : ¬ p → SimO K2 n y y1) : SimO K2 n (if p then x else y) (if p then x1 else y1) := by
  split
  · exact h1 (by assumption)
  · exact h2 (by assumption)
theorem SimO_ret {v : AV} (h1 : rfA n v) (h3 : StN n σ) : SimO K2 n (retv v (upS K2 σ)) (retv v σ) := fun q h => by
  cases h
  exact ⟨_, rfl, rfl, h1, h3⟩
theorem SimO_thr {E : Nat} (h3 : StN n σ) : SimO K2 n (thr E (bump (upS K2 σ))) (thr E (bump σ)) := fun q h => by
  cases h
  exact ⟨_, rfl, rfl, h3⟩
theorem SimO_cal {y : Nat} {as : List AV} {pc : Nat} {ls st : List AV} (h0 : rfL n as) (h1 : rfL n ls) (h2 : rfL n st) (h3 : StN n σ) : SimO K2 n (cal y as pc ls st (upS K2 σ)) (cal y as pc ls st σ) := by
  unfold cal
  refine SimO_ite (fun _ q h => ?_) (fun _ => SimO_none)
  cases h
  exact ⟨_, rfl, rfl, h0, h1, h2, h3⟩
theorem SimO_of {x y : Option ST} (h : ∀ q, x = some q → SimO K2 n x y) : SimO K2 n x y := fun q e => h q e q e
theorem stC_sim (hS : StN n σ) (hl : rfL n ls) (hs : rfL n st) : SimO K2 n (stC pc ls st (upS K2 σ) a b c) (stC pc ls st σ a b c) := by
  unfold stC
  refine SimO_ite (fun _ => SimO_ite (fun _ => SimO_cal ?_ hl ?_ hS) (fun _ => SimO_none)) (fun _ => SimO_ite (fun _ => ?_) (fun _ => SimO_ite (fun _ => ?_) (fun _ => SimO_ite (fun _ => ?_) (fun _ => SimO_ite (fun _ => ?_) (fun _ => SimO_ite (fun _ => ?_) (fun _ => SimO_none))))))
  · exact fun v hv => hs v (List.mem_of_mem_take (List.mem_reverse.mp hv))
  · exact fun v hv => hs v (List.mem_of_mem_drop hv)
  · refine SimO_of (fun q h => ?_)
    have hd : rfL n (st.drop b) := fun v hv => hs v (List.mem_of_mem_drop hv)
    split at h
    · next t rest e =>
      rw [e] at hd
      simp only [okd_up hS hd.r]
      exact SimO_ite (fun _ => SimO_cal (rfL_c hd.h (fun v hv => hs v (List.mem_of_mem_take (List.mem_reverse.mp hv)))) hl hd.t hS) (fun _ => SimO_none)
    · cases h
  · refine SimO_of (fun q h => ?_)
    split at h
    · exact SimO_ite (fun _ => SimO_nx hl hs.t hS) (fun _ => SimO_none)
    · cases h
  · refine SimO_of (fun q h => ?_)
    split at h
    · have r1 := hs.t.t.r
      have r2 := hs.t.t.t.t.r
      simp only [okd_up hS r1, okd_up hS r2, oln_up hS r1, oln_up hS r2]
      exact SimO_ite (fun _ => SimO_nx (σ := copyw σ _ _ _ _ _) hl hs.t.t.t.t.t hS) (fun _ => SimO_none)
    · cases h
  · refine SimO_of (fun q h => ?_)
    split at h
    · exact SimO_ite (fun _ => SimO_nx hl (rfL_c rfA_I hs.t) hS) (fun _ => SimO_none)
    · cases h
  · refine SimO_of (fun q h => ?_)
    split at h
    · exact SimO_ite (fun _ => SimO_nx hl (rfL_c rfA_I hs.t.t) hS) (fun _ => SimO_none)
    · cases h
set_option maxHeartbeats 4000000 in
theorem stepI_sim {ins : Instr} (hS : StN n σ) (hf : fresh (upS K2 σ) = false) (hl : rfL n ls) (hs : rfL n st) : SimO K2 n (stepI m pc ls st (upS K2 σ) ins a b c) (stepI m pc ls st σ ins a b c) := by
  cases ins
  any_goals exact SimO_none
  case iconst =>
    exact SimO_nx hl (rfL_c rfA_I hs) hS
  case bipush =>
    exact SimO_nx hl (rfL_c rfA_I hs) hS
  case sipush =>
    exact SimO_nx hl (rfL_c rfA_I hs) hS
  case lconst =>
    exact SimO_nx hl (rfL_c rfA_L hs) hS
  case fconst =>
    exact SimO_ite (fun _ => SimO_nx hl (rfL_c rfA_F hs) hS) (fun _ => SimO_none)
  case dconst =>
    exact SimO_ite (fun _ => SimO_nx hl (rfL_c rfA_D hs) hS) (fun _ => SimO_none)
  case ldc =>
    exact SimO_nx hl (rfL_c rfA_S hs) hS
  case ldc_w =>
    exact SimO_nx hl (rfL_c rfA_S hs) hS
  case iload =>
    refine SimO_of (fun q h => ?_)
    simp only [stepI, ldi] at h ⊢
    split at h
    · exact SimO_nx hl (rfL_c rfA_I hs) hS
    · cases h
  case iload_n =>
    refine SimO_of (fun q h => ?_)
    simp only [stepI, ldi] at h ⊢
    split at h
    · exact SimO_nx hl (rfL_c rfA_I hs) hS
    · cases h
  case aload =>
    refine SimO_of (fun q h => ?_)
    simp only [stepI, lda] at h ⊢
    split at h
    · next e => exact SimO_nx hl (rfL_c (hl.g e) hs) hS
    · exact SimO_nx hl (rfL_c rfA_S hs) hS
    · cases h
  case aload_n =>
    refine SimO_of (fun q h => ?_)
    simp only [stepI, lda] at h ⊢
    split at h
    · next e => exact SimO_nx hl (rfL_c (hl.g e) hs) hS
    · exact SimO_nx hl (rfL_c rfA_S hs) hS
    · cases h
  case dload =>
    refine SimO_of (fun q h => ?_)
    simp only [stepI, ldd] at h ⊢
    split at h
    · exact SimO_nx hl (rfL_c rfA_D hs) hS
    · cases h
  case istore =>
    refine SimO_of (fun q h => ?_)
    simp only [stepI, sti] at h ⊢
    split at h
    · exact SimO_ite (fun _ => SimO_nx (rfL_sto hl rfA_I) hs.t hS) (fun _ => SimO_none)
    · cases h
  case istore_n =>
    refine SimO_of (fun q h => ?_)
    simp only [stepI, sti] at h ⊢
    split at h
    · exact SimO_ite (fun _ => SimO_nx (rfL_sto hl rfA_I) hs.t hS) (fun _ => SimO_none)
    · cases h
  case astore =>
    refine SimO_of (fun q h => ?_)
    simp only [stepI, sta] at h ⊢
    split at h
    · exact SimO_ite (fun _ => SimO_nx (rfL_sto hl hs.h) hs.t hS) (fun _ => SimO_none)
    · cases h
  case astore_n =>
    refine SimO_of (fun q h => ?_)
    simp only [stepI, sta] at h ⊢
    split at h
    · exact SimO_ite (fun _ => SimO_nx (rfL_sto hl hs.h) hs.t hS) (fun _ => SimO_none)
    · cases h
  case dstore =>
    refine SimO_of (fun q h => ?_)
    simp only [stepI, std] at h ⊢
    split at h
    · exact SimO_ite (fun _ => SimO_nx (rfL_sto2 hl rfA_D) hs.t hS) (fun _ => SimO_none)
    · cases h
  case iinc =>
    refine SimO_of (fun q h => ?_)
    simp only [stepI] at h ⊢
    split at h
    · exact SimO_nx (rfL_sto hl rfA_I) hs hS
    · cases h
  case dup =>
    refine SimO_of (fun q h => ?_)
    simp only [stepI] at h ⊢
    split at h
    · exact SimO_ite (fun _ => SimO_nx hl (rfL_c hs.h hs) hS) (fun _ => SimO_none)
    · cases h
  case dup2 =>
    refine SimO_of (fun q h => ?_)
    simp only [stepI] at h ⊢
    split at h
    · exact SimO_ite (fun _ => SimO_nx hl (rfL_c hs.h (rfL_c hs.t.h hs)) hS) (fun _ => SimO_none)
    · cases h
  case pop =>
    refine SimO_of (fun q h => ?_)
    simp only [stepI] at h ⊢
    split at h
    · exact SimO_ite (fun _ => SimO_nx hl hs.t hS) (fun _ => SimO_none)
    · cases h
  case iadd =>
    refine SimO_of (fun q h => ?_)
    simp only [stepI] at h ⊢
    split at h
    · exact SimO_nx hl (rfL_c rfA_I hs.t.t) hS
    · cases h
  case isub =>
    refine SimO_of (fun q h => ?_)
    simp only [stepI] at h ⊢
    split at h
    · exact SimO_nx hl (rfL_c rfA_I hs.t.t) hS
    · cases h
  case imul =>
    refine SimO_of (fun q h => ?_)
    simp only [stepI] at h ⊢
    split at h
    · exact SimO_nx hl (rfL_c rfA_I hs.t.t) hS
    · cases h
  case idiv =>
    refine SimO_of (fun q h => ?_)
    simp only [stepI] at h ⊢
    split at h
    · exact SimO_ite (fun _ => SimO_nx hl (rfL_c rfA_I hs.t.t) hS) (fun _ => SimO_none)
    · cases h
  case irem =>
    refine SimO_of (fun q h => ?_)
    simp only [stepI] at h ⊢
    split at h
    · exact SimO_ite (fun _ => SimO_nx hl (rfL_c rfA_I hs.t.t) hS) (fun _ => SimO_none)
    · cases h
  case iand =>
    refine SimO_of (fun q h => ?_)
    simp only [stepI] at h ⊢
    split at h
    · exact SimO_ite (fun _ => SimO_nx hl (rfL_c rfA_I hs.t.t) hS) (fun _ => SimO_none)
    · cases h
  case iushr =>
    refine SimO_of (fun q h => ?_)
    simp only [stepI] at h ⊢
    split at h
    · exact SimO_ite (fun _ => SimO_nx hl (rfL_c rfA_I hs.t.t) hS) (fun _ => SimO_none)
    · cases h
  case ishr =>
    refine SimO_of (fun q h => ?_)
    simp only [stepI] at h ⊢
    split at h
    · exact SimO_ite (fun _ => SimO_nx hl (rfL_c rfA_I hs.t.t) hS) (fun _ => SimO_none)
    · cases h
  case i2l =>
    refine SimO_of (fun q h => ?_)
    simp only [stepI] at h ⊢
    split at h
    · exact SimO_nx hl (rfL_c rfA_L hs.t) hS
    · cases h
  case lcmp =>
    refine SimO_of (fun q h => ?_)
    simp only [stepI] at h ⊢
    split at h
    · exact SimO_nx hl (rfL_c rfA_I hs.t.t) hS
    · cases h
  case i2f =>
    refine SimO_of (fun q h => ?_)
    simp only [stepI] at h ⊢
    split at h
    · exact SimO_nx hl (rfL_c rfA_F hs.t) hS
    · cases h
  case i2d =>
    refine SimO_of (fun q h => ?_)
    simp only [stepI] at h ⊢
    split at h
    · exact SimO_nx hl (rfL_c rfA_D hs.t) hS
    · cases h
  case f2d =>
    refine SimO_of (fun q h => ?_)
    simp only [stepI] at h ⊢
    split at h
    · exact SimO_ite (fun _ => SimO_nx hl (rfL_c rfA_D hs.t) hS) (fun _ => SimO_none)
    · cases h
  case fdiv =>
    refine SimO_of (fun q h => ?_)
    simp only [stepI] at h ⊢
    split at h
    · exact SimO_ite (fun _ => SimO_nx hl (rfL_c rfA_F hs.t.t) hS) (fun _ => SimO_none)
    · cases h
  case ddiv =>
    refine SimO_of (fun q h => ?_)
    simp only [stepI] at h ⊢
    split at h
    · exact SimO_ite (fun _ => SimO_nx hl (rfL_c rfA_D hs.t.t) hS) (fun _ => SimO_none)
    · cases h
  case dcmp =>
    refine SimO_of (fun q h => ?_)
    simp only [stepI] at h ⊢
    split at h
    · exact SimO_nx hl (rfL_c rfA_I hs.t.t) hS
    · cases h
  case goto =>
    exact SimO_jmp hl hs hS
  case ifCond =>
    refine SimO_of (fun q h => ?_)
    simp only [stepI] at h ⊢
    split at h
    · exact SimO_ite (fun _ => SimO_jmp hl hs.t hS) (fun _ => SimO_nx hl hs.t hS)
    · cases h
  case if_icmp =>
    refine SimO_of (fun q h => ?_)
    simp only [stepI] at h ⊢
    split at h
    · exact SimO_ite (fun _ => SimO_jmp hl hs.t.t hS) (fun _ => SimO_nx hl hs.t.t hS)
    · cases h
  case tableswitch =>
    refine SimO_of (fun q h => ?_)
    simp only [stepI] at h ⊢
    split at h
    · refine SimO_ite (fun _ => SimO_jmp hl hs.t hS) (fun _ => ?_)
      split
      · exact SimO_jmp hl hs.t hS
      · exact SimO_none
    · cases h
  case lookupswitch =>
    refine SimO_of (fun q h => ?_)
    simp only [stepI] at h ⊢
    split at h
    · exact SimO_ite (fun _ => SimO_jmp hl hs.t hS) (fun _ => SimO_none)
    · cases h
  case ireturn =>
    refine SimO_of (fun q h => ?_)
    simp only [stepI] at h ⊢
    split at h
    · exact SimO_ite (fun _ => SimO_ret rfA_I hS) (fun _ => SimO_none)
    · cases h
  case freturn =>
    refine SimO_of (fun q h => ?_)
    simp only [stepI] at h ⊢
    split at h
    · exact SimO_ite (fun _ => SimO_ret rfA_F hS) (fun _ => SimO_none)
    · cases h
  case dreturn =>
    refine SimO_of (fun q h => ?_)
    simp only [stepI] at h ⊢
    split at h
    · exact SimO_ite (fun _ => SimO_ret rfA_D hS) (fun _ => SimO_none)
    · cases h
  case return_ =>
    refine SimO_of (fun q h => ?_)
    simp only [stepI] at h ⊢
    split at h
    · exact SimO_ite (fun _ => SimO_ret rfA_U hS) (fun _ => SimO_none)
    · cases h
  case getfield =>
    refine SimO_of (fun q h => ?_)
    simp only [stepI] at h ⊢
    split at h
    · simp only [okd_up hS hs.r, orf_up hS hs.r]
      refine SimO_ite (fun _ => SimO_ite (fun _ => ?_) (fun _ => SimO_nx hl (rfL_c rfA_I hs.t) hS)) (fun _ => SimO_none)
      split
      · exact SimO_none
      · next e => exact SimO_nx hl (rfL_c (rfA_R (Nat.le_trans (Nat.le_of_eq e.symm) (orf_le hS))) hs.t) hS
    · cases h
  case putfield =>
    refine SimO_of (fun q h => ?_)
    simp only [stepI] at h ⊢
    split at h
    · simp only [okd_up hS hs.t.r]
      exact SimO_ite (fun _ => SimO_nx (σ := put σ _ _ _) hl hs.t.t hS) (fun _ => SimO_none)
    · simp only [okd_up hS hs.t.r, putr_up hS hs.t.r]
      exact SimO_ite (fun _ => SimO_nx (σ := putr σ _ _ _) hl hs.t.t (StN_putr hS hs.r)) (fun _ => SimO_none)
    · cases h
  case newarray =>
    refine SimO_of (fun q h => ?_)
    simp only [stepI] at h ⊢
    split at h
    · rw [if_neg (by rw [hf]; simp)] at h
      cases h
    · cases h
  case anewarray =>
    refine SimO_of (fun q h => ?_)
    simp only [stepI] at h ⊢
    split at h
    · rw [if_neg (by rw [hf]; simp)] at h
      cases h
    · cases h
  case multianewarray =>
    refine SimO_of (fun q h => ?_)
    simp only [stepI] at h ⊢
    split at h
    · rw [if_neg (by rw [hf]; simp)] at h
      cases h
    · cases h
  case new =>
    refine SimO_of (fun q h => ?_)
    simp only [stepI] at h ⊢
    refine SimO_ite (fun _ => SimO_ite (fun _ => SimO_thr hS) (fun _ => SimO_none)) (fun z => ?_)
    rw [if_neg z, if_neg (by rw [hf]; simp)] at h
    cases h
  case arraylength =>
    refine SimO_of (fun q h => ?_)
    simp only [stepI] at h ⊢
    split at h
    · simp only [okd_up hS hs.r, oln_up hS hs.r]
      exact SimO_ite (fun _ => SimO_nx hl (rfL_c rfA_I hs.t) hS) (fun _ => SimO_none)
    · exact SimO_nx hl (rfL_c rfA_I hs.t) hS
    · cases h
  case iaload =>
    refine SimO_of (fun q h => ?_)
    simp only [stepI] at h ⊢
    split at h
    · simp only [okd_up hS hs.t.r, oln_up hS hs.t.r]
      exact SimO_ite (fun _ => SimO_nx hl (rfL_c rfA_I hs.t.t) hS) (fun _ => SimO_none)
    · exact SimO_ite (fun _ => SimO_nx hl (rfL_c rfA_I hs.t.t) hS) (fun _ => SimO_none)
    · cases h
  case baload =>
    refine SimO_of (fun q h => ?_)
    simp only [stepI] at h ⊢
    split at h
    · simp only [okd_up hS hs.t.r, oln_up hS hs.t.r]
      exact SimO_ite (fun _ => SimO_nx hl (rfL_c rfA_I hs.t.t) hS) (fun _ => SimO_none)
    · cases h
  case laload =>
    refine SimO_of (fun q h => ?_)
    simp only [stepI] at h ⊢
    split at h
    · simp only [okd_up hS hs.t.r, oln_up hS hs.t.r]
      exact SimO_ite (fun _ => SimO_nx hl (rfL_c rfA_L hs.t.t) hS) (fun _ => SimO_none)
    · cases h
  case iastore =>
    refine SimO_of (fun q h => ?_)
    simp only [stepI] at h ⊢
    split at h
    · simp only [okd_up hS hs.t.t.r, oln_up hS hs.t.t.r]
      exact SimO_ite (fun _ => SimO_nx (σ := put σ _ _ _) hl hs.t.t.t hS) (fun _ => SimO_none)
    · cases h
  case bastore =>
    refine SimO_of (fun q h => ?_)
    simp only [stepI] at h ⊢
    split at h
    · simp only [okd_up hS hs.t.t.r, oln_up hS hs.t.t.r]
      exact SimO_ite (fun _ => SimO_nx (σ := put σ _ _ _) hl hs.t.t.t hS) (fun _ => SimO_none)
    · cases h
  case lastore =>
    refine SimO_of (fun q h => ?_)
    simp only [stepI] at h ⊢
    split at h
    · simp only [okd_up hS hs.t.t.r, oln_up hS hs.t.t.r]
      exact SimO_ite (fun _ => SimO_nx (σ := put σ _ _ _) hl hs.t.t.t hS) (fun _ => SimO_none)
    · cases h
  case aaload =>
    refine SimO_of (fun q h => ?_)
    simp only [stepI] at h ⊢
    split at h
    · simp only [okd_up hS hs.t.r, oln_up hS hs.t.r, orf_up hS hs.t.r]
      refine SimO_ite (fun _ => ?_) (fun _ => SimO_none)
      split
      · exact SimO_none
      · next e => exact SimO_nx hl (rfL_c (rfA_R (Nat.le_trans (Nat.le_of_eq e.symm) (orf_le hS))) hs.t.t) hS
    · cases h
  case aastore =>
    refine SimO_of (fun q h => ?_)
    simp only [stepI] at h ⊢
    split at h
    · simp only [okd_up hS hs.r, okd_up hS hs.t.t.r, oln_up hS hs.t.t.r, putr_up hS hs.t.t.r]
      exact SimO_ite (fun _ => SimO_nx (σ := putr σ _ _ _) hl hs.t.t.t (StN_putr hS hs.r)) (fun _ => SimO_none)
    · cases h
  case invokevirtual =>
    exact stC_sim hS hl hs
  case invokespecial =>
    exact stC_sim hS hl hs
  case invokestatic =>
    exact stC_sim hS hl hs
end A

/-! WALKS of the small machine: one judgement, a rule an instruction -/
def Rn (t : Option Out) (Q : Out → Prop) : Prop := ∃ o, t = some o ∧ Q o
theorem Rn.eq {t : Option Out} {o : Out} (h : Rn t (fun q => q = o)) : t = some o := by
  obtain ⟨q, h1, rfl⟩ := h
  exact h1
theorem Rn.to {t : Option Out} {o : Out} {Q : Out → Prop} (h : t = some o) (q : Q o) : Rn t Q := ⟨o, h, q⟩
theorem Rn.mono {t : Option Out} {Q Q1 : Out → Prop} (h : Rn t Q) (f : ∀ o, Q o → Q1 o) : Rn t Q1 := by
  obtain ⟨o, h1, h2⟩ := h
  exact ⟨o, h1, f o h2⟩
abbrev R4 : Type := Nat × Nat × Nat × (Nat → Int)
theorem wr_id {z : Int} (h1 : -2147483648 ≤ z) (h2 : z ≤ 2147483647) : wr z = z := by unfold wr; omega
def kdK (K : List AKd) (k : Nat) : Option AKd := match k with
  | 0 => none
  | k + 1 => K[k]?
noncomputable def b2i (p : Prop) : Int := @ite _ p (Classical.propDecidable p) 1 0
theorem b2i_t {p : Prop} (h : p) : b2i p = 1 := by unfold b2i; exact if_pos h
theorem b2i_f {p : Prop} (h : ¬ p) : b2i p = 0 := by unfold b2i; exact if_neg h
theorem b2i_01 (p : Prop) : b2i p = 0 ∨ b2i p = 1 := (Classical.em p).elim (fun h => Or.inr (b2i_t h)) (fun h => Or.inl (b2i_f h))
theorem b2i_0 {p : Prop} : b2i p = 0 ↔ ¬ p := ⟨fun h hp => absurd ((b2i_t hp).symm.trans h) (by decide), b2i_f⟩
theorem kdK_pos {K : List AKd} {k : Nat} {q : AKd} (h : kdK K k = some q) : 0 < k := by
  cases k with
  | zero => cases h
  | succ k => exact Nat.succ_pos k
section WALK
variable {m pc ln a b c w : Nat} {ls st : List AV} {σ : Sg} {K : List AKd} {h : Nat → Nat → Int} {R : R4} {Q : Out → Prop}
theorem kd_tup {k : Nat} : kd (K, h, R) k = kdK K k := by cases k <;> rfl
theorem okd_of {k A n : Nat} {rs : List Nat} (hk : kdK K k = some (A, n, rs)) : okd (K, h, R) k = A := by unfold okd; rw [kd_tup, hk]
theorem oln_of {k A n : Nat} {rs : List Nat} (hk : kdK K k = some (A, n, rs)) : oln (K, h, R) k = (n : Int) := by unfold oln; rw [kd_tup, hk]
theorem orf_of {k A n j : Nat} {rs : List Nat} (hk : kdK K k = some (A, n, rs)) : orf (K, h, R) k j = rs.getD j 0 := by unfold orf; rw [kd_tup, hk]
theorem st_at {ins : Instr} (hf : FF m pc ins ln a b c w) : step m pc ls st σ = stepI m pc ls st σ ins a b c := by unfold step; rw [hf]
theorem w_nx {ins : Instr} {pc1 : Nat} {ls1 st1 : List AV} {σ1 : Sg} (hf : FF m pc ins ln a b c w) (hs : stepI m pc ls st σ ins a b c = nx pc1 ls1 st1 σ1) (g : Rn (ev m pc1 ls1 st1 σ1) Q) : Rn (ev m pc ls st σ) Q := by
  rw [ev_next ((st_at hf).trans hs)]
  exact g
theorem w_iconst {n v : Int} (hf : FF m pc (.iconst n) ln a b c w) (hv : wr n = v) (g : Rn (ev m (pc + 1) ls (AI v :: st) σ) Q) : Rn (ev m pc ls (st) σ) Q := w_nx hf (by subst hv; rfl) g
theorem w_bipush {n v : Int} (hf : FF m pc (.bipush n) ln a b c w) (hv : (Int8.ofInt n).toInt = v) (g : Rn (ev m (pc + 2) ls (AI v :: st) σ) Q) : Rn (ev m pc ls (st) σ) Q := w_nx hf (by subst hv; rfl) g
theorem w_sipush {n v : Int} (hf : FF m pc (.sipush n) ln a b c w) (hv : (Int16.ofInt n).toInt = v) (g : Rn (ev m (pc + 3) ls (AI v :: st) σ) Q) : Rn (ev m pc ls (st) σ) Q := w_nx hf (by subst hv; rfl) g
theorem w_lconst {n : Fin 2} {v : Int} (hf : FF m pc (.lconst n) ln a b c w) (hv : (n.val : Int) = v) (g : Rn (ev m (pc + 1) ls (AL v :: st) σ) Q) : Rn (ev m pc ls (st) σ) Q := w_nx hf (by subst hv; rfl) g
theorem w_fconst  (hf : FF m pc (.fconst 1) ln a b c w) (g : Rn (ev m (pc + 1) ls (AF FP.fconst1 :: st) σ) Q) : Rn (ev m pc ls (st) σ) Q := w_nx hf (rfl) g
theorem w_dconst  (hf : FF m pc (.dconst 0) ln a b c w) (g : Rn (ev m (pc + 1) ls (AD FP.dconst0 :: st) σ) Q) : Rn (ev m pc ls (st) σ) Q := w_nx hf (rfl) g
theorem w_ldc {n : Nat} (hf : FF m pc (.ldc n) ln a b c w) (g : Rn (ev m (pc + 2) ls (AS a :: st) σ) Q) : Rn (ev m pc ls (st) σ) Q := w_nx hf (rfl) g
theorem w_ldcw {n : Nat} (hf : FF m pc (.ldc_w n) ln a b c w) (g : Rn (ev m (pc + 3) ls (AS a :: st) σ) Q) : Rn (ev m pc ls (st) σ) Q := w_nx hf (rfl) g
theorem w_iload {i : Nat} {x : Int} (hf : FF m pc (.iload i) ln a b c w) (hx : ls[i]? = some (AI x)) (g : Rn (ev m (pc + 2) ls (AI x :: st) σ) Q) : Rn (ev m pc ls (st) σ) Q := w_nx hf (by show ldi _ _ _ _ _ = _; unfold ldi; rw [hx]) g
theorem w_iloadn {i : Fin 4} {x : Int} (hf : FF m pc (.iload_n i) ln a b c w) (hx : ls[i.val]? = some (AI x)) (g : Rn (ev m (pc + 1) ls (AI x :: st) σ) Q) : Rn (ev m pc ls (st) σ) Q := w_nx hf (by show ldi _ _ _ _ _ = _; unfold ldi; rw [hx]) g
theorem w_aload {i : Nat} {x : Nat} (hf : FF m pc (.aload i) ln a b c w) (hx : ls[i]? = some (AR x)) (hp : 0 < x) (g : Rn (ev m (pc + 2) ls (AR x :: st) σ) Q) : Rn (ev m pc ls (st) σ) Q := w_nx hf (by
    cases x with
    | zero => cases hp
    | succ x => show lda _ _ _ _ _ = _; unfold lda; rw [hx]) g
theorem w_aloads {i : Nat} {x : Nat} (hf : FF m pc (.aload i) ln a b c w) (hx : ls[i]? = some (AS x)) (g : Rn (ev m (pc + 2) ls (AS x :: st) σ) Q) : Rn (ev m pc ls (st) σ) Q := w_nx hf (by show lda _ _ _ _ _ = _; unfold lda; rw [hx]) g
theorem w_aloadn {i : Fin 4} {x : Nat} (hf : FF m pc (.aload_n i) ln a b c w) (hx : ls[i.val]? = some (AR x)) (hp : 0 < x) (g : Rn (ev m (pc + 1) ls (AR x :: st) σ) Q) : Rn (ev m pc ls (st) σ) Q := w_nx hf (by
    cases x with
    | zero => cases hp
    | succ x => show lda _ _ _ _ _ = _; unfold lda; rw [hx]) g
theorem w_aloadns {i : Fin 4} {x : Nat} (hf : FF m pc (.aload_n i) ln a b c w) (hx : ls[i.val]? = some (AS x)) (g : Rn (ev m (pc + 1) ls (AS x :: st) σ) Q) : Rn (ev m pc ls (st) σ) Q := w_nx hf (by show lda _ _ _ _ _ = _; unfold lda; rw [hx]) g
theorem w_dload {i : Nat} {x : UInt64} (hf : FF m pc (.dload i) ln a b c w) (hx : ls[i]? = some (AD x)) (g : Rn (ev m (pc + 2) ls (AD x :: st) σ) Q) : Rn (ev m pc ls (st) σ) Q := w_nx hf (by show ldd _ _ _ _ _ = _; unfold ldd; rw [hx]) g
theorem w_istore {i : Nat} {x : Int} {ls1 : List AV} (hf : FF m pc (.istore i) ln a b c w) (hi : i < ls.length) (hs : sto ls i (AI x) = ls1) (g : Rn (ev m (pc + 2) ls1 (st) σ) Q) : Rn (ev m pc ls (AI x :: st) σ) Q := w_nx hf (by subst hs; exact if_pos hi) g
theorem w_istoren {i : Fin 4} {x : Int} {ls1 : List AV} (hf : FF m pc (.istore_n i) ln a b c w) (hi : i.val < ls.length) (hs : sto ls i.val (AI x) = ls1) (g : Rn (ev m (pc + 1) ls1 (st) σ) Q) : Rn (ev m pc ls (AI x :: st) σ) Q := w_nx hf (by subst hs; exact if_pos hi) g
theorem w_astore {i : Nat} {x : Nat} {ls1 : List AV} (hf : FF m pc (.astore i) ln a b c w) (hp : 0 < x) (hi : i < ls.length) (hs : sto ls i (AR x) = ls1) (g : Rn (ev m (pc + 2) ls1 (st) σ) Q) : Rn (ev m pc ls (AR x :: st) σ) Q := w_nx hf (by
    cases x with
    | zero => cases hp
    | succ x => subst hs; exact if_pos hi) g
theorem w_astoren {i : Fin 4} {x : Nat} {ls1 : List AV} (hf : FF m pc (.astore_n i) ln a b c w) (hp : 0 < x) (hi : i.val < ls.length) (hs : sto ls i.val (AR x) = ls1) (g : Rn (ev m (pc + 1) ls1 (st) σ) Q) : Rn (ev m pc ls (AR x :: st) σ) Q := w_nx hf (by
    cases x with
    | zero => cases hp
    | succ x => subst hs; exact if_pos hi) g
theorem w_dstore {i : Nat} {x : UInt64} {ls1 : List AV} (hf : FF m pc (.dstore i) ln a b c w) (hi : i + 1 < ls.length) (hs : sto2 ls i (AD x) = ls1) (g : Rn (ev m (pc + 2) ls1 (st) σ) Q) : Rn (ev m pc ls (AD x :: st) σ) Q := w_nx hf (by subst hs; exact if_pos hi) g
theorem w_iinc {i : Nat} {d x : Int} {ls1 : List AV} (hf : FF m pc (.iinc i d) ln a b c w) (hx : ls[i]? = some (AI x)) (hs : sto ls i (AI (wr (x + d))) = ls1) (g : Rn (ev m (pc + 3) ls1 (st) σ) Q) : Rn (ev m pc ls (st) σ) Q := w_nx hf (by subst hs; simp only [stepI, hx]) g
theorem w_dup {v : AV} (hf : FF m pc (.dup) ln a b c w) (hc : cat1 v = true) (g : Rn (ev m (pc + 1) ls (v :: v :: st) σ) Q) : Rn (ev m pc ls (v :: st) σ) Q := w_nx hf (if_pos hc) g
theorem w_dup2 {v v1 : AV} (hf : FF m pc (.dup2) ln a b c w) (hc : (cat1 v && cat1 v1) = true) (g : Rn (ev m (pc + 1) ls (v :: v1 :: v :: v1 :: st) σ) Q) : Rn (ev m pc ls (v :: v1 :: st) σ) Q := w_nx hf (if_pos hc) g
theorem w_pop {v : AV} (hf : FF m pc (.pop) ln a b c w) (hc : cat1 v = true) (g : Rn (ev m (pc + 1) ls (st) σ) Q) : Rn (ev m pc ls (v :: st) σ) Q := w_nx hf (if_pos hc) g
theorem w_iadd {x y : Int} (hf : FF m pc (.iadd) ln a b c w) (g : Rn (ev m (pc + 1) ls (AI (wr (x + y)) :: st) σ) Q) : Rn (ev m pc ls (AI y :: AI x :: st) σ) Q := w_nx hf (rfl) g
theorem w_isub {x y : Int} (hf : FF m pc (.isub) ln a b c w) (g : Rn (ev m (pc + 1) ls (AI (wr (x - y)) :: st) σ) Q) : Rn (ev m pc ls (AI y :: AI x :: st) σ) Q := w_nx hf (rfl) g
theorem w_imul {x y : Int} (hf : FF m pc (.imul) ln a b c w) (g : Rn (ev m (pc + 1) ls (AI (wr (x * y)) :: st) σ) Q) : Rn (ev m pc ls (AI y :: AI x :: st) σ) Q := w_nx hf (rfl) g
theorem w_idiv {x y : Int} (hf : FF m pc (.idiv) ln a b c w) (hx : 0 ≤ x ∧ 0 < y) (g : Rn (ev m (pc + 1) ls (AI (x / y) :: st) σ) Q) : Rn (ev m pc ls (AI y :: AI x :: st) σ) Q := w_nx hf (if_pos hx) g
theorem w_irem {x y : Int} (hf : FF m pc (.irem) ln a b c w) (hx : 0 ≤ x ∧ 0 < y) (g : Rn (ev m (pc + 1) ls (AI (x % y) :: st) σ) Q) : Rn (ev m pc ls (AI y :: AI x :: st) σ) Q := w_nx hf (if_pos hx) g
theorem w_iaddn {x y : Int} (hf : FF m pc (.iadd) ln a b c w) (hb : -2147483648 ≤ x + y ∧ x + y ≤ 2147483647) (g : Rn (ev m (pc + 1) ls (AI (x + y) :: st) σ) Q) : Rn (ev m pc ls (AI y :: AI x :: st) σ) Q := w_nx hf (by show nx _ _ (AI (wr _) :: _) _ = _; rw [wr_id hb.1 hb.2]) g
theorem w_isubn {x y : Int} (hf : FF m pc (.isub) ln a b c w) (hb : -2147483648 ≤ x - y ∧ x - y ≤ 2147483647) (g : Rn (ev m (pc + 1) ls (AI (x - y) :: st) σ) Q) : Rn (ev m pc ls (AI y :: AI x :: st) σ) Q := w_nx hf (by show nx _ _ (AI (wr _) :: _) _ = _; rw [wr_id hb.1 hb.2]) g
theorem w_imuln {x y : Int} (hf : FF m pc (.imul) ln a b c w) (hb : -2147483648 ≤ x * y ∧ x * y ≤ 2147483647) (g : Rn (ev m (pc + 1) ls (AI (x * y) :: st) σ) Q) : Rn (ev m pc ls (AI y :: AI x :: st) σ) Q := w_nx hf (by show nx _ _ (AI (wr _) :: _) _ = _; rw [wr_id hb.1 hb.2]) g
theorem w_iaddc {x y v : Int} (hf : FF m pc (.iadd) ln a b c w) (hv : wr (x + y) = v) (g : Rn (ev m (pc + 1) ls (AI v :: st) σ) Q) : Rn (ev m pc ls (AI y :: AI x :: st) σ) Q := w_nx hf (by subst hv; rfl) g
theorem w_isubc {x y v : Int} (hf : FF m pc (.isub) ln a b c w) (hv : wr (x - y) = v) (g : Rn (ev m (pc + 1) ls (AI v :: st) σ) Q) : Rn (ev m pc ls (AI y :: AI x :: st) σ) Q := w_nx hf (by subst hv; rfl) g
theorem w_imulc {x y v : Int} (hf : FF m pc (.imul) ln a b c w) (hv : wr (x * y) = v) (g : Rn (ev m (pc + 1) ls (AI v :: st) σ) Q) : Rn (ev m pc ls (AI y :: AI x :: st) σ) Q := w_nx hf (by subst hv; rfl) g
theorem w_iincc {i : Nat} {d x v : Int} {ls1 : List AV} (hf : FF m pc (.iinc i d) ln a b c w) (hx : ls[i]? = some (AI x)) (hv : wr (x + d) = v) (hs : sto ls i (AI v) = ls1) (g : Rn (ev m (pc + 3) ls1 (st) σ) Q) : Rn (ev m pc ls (st) σ) Q := w_nx hf (by subst hs; subst hv; simp only [stepI, hx]) g
theorem w_iincn {i : Nat} {d x : Int} {ls1 : List AV} (hf : FF m pc (.iinc i d) ln a b c w) (hx : ls[i]? = some (AI x)) (hb : -2147483648 ≤ x + d ∧ x + d ≤ 2147483647) (hs : sto ls i (AI (x + d)) = ls1) (g : Rn (ev m (pc + 3) ls1 (st) σ) Q) : Rn (ev m pc ls (st) σ) Q := w_nx hf (by subst hs; simp only [stepI, hx, wr_id hb.1 hb.2]) g
theorem w_iand63 {x : Int} (hf : FF m pc (.iand) ln a b c w) (g : Rn (ev m (pc + 1) ls (AI (x % 64) :: st) σ) Q) : Rn (ev m pc ls (AI 63 :: AI x :: st) σ) Q := w_nx hf (rfl) g
theorem w_iand255 {x : Int} (hf : FF m pc (.iand) ln a b c w) (g : Rn (ev m (pc + 1) ls (AI (x % 256) :: st) σ) Q) : Rn (ev m pc ls (AI 255 :: AI x :: st) σ) Q := w_nx hf (rfl) g
theorem w_iushr {x y : Int} (hf : FF m pc (.iushr) ln a b c w) (hy : y = 8 ∨ y = 16 ∨ y = 24) (g : Rn (ev m (pc + 1) ls (AI ((x % 4294967296) / 2 ^ y.toNat) :: st) σ) Q) : Rn (ev m pc ls (AI y :: AI x :: st) σ) Q := w_nx hf (if_pos hy) g
theorem w_ishr {x y : Int} (hf : FF m pc (.ishr) ln a b c w) (hy : 0 ≤ y ∧ y ≤ 31) (g : Rn (ev m (pc + 1) ls (AI (x / 2 ^ y.toNat) :: st) σ) Q) : Rn (ev m pc ls (AI y :: AI x :: st) σ) Q := w_nx hf (if_pos hy) g
theorem w_i2l {x : Int} (hf : FF m pc (.i2l) ln a b c w) (g : Rn (ev m (pc + 1) ls (AL x :: st) σ) Q) : Rn (ev m pc ls (AI x :: st) σ) Q := w_nx hf (rfl) g
def lcx (x y : Int) : Int := if x < y then -1 else if x = y then 0 else 1
theorem lcx_0 {x y : Int} : lcx x y = 0 ↔ x = y := by unfold lcx; split <;> (try split) <;> omega
theorem w_lcmp {x y : Int} (hf : FF m pc (.lcmp) ln a b c w) (g : Rn (ev m (pc + 1) ls (AI (lcx x y) :: st) σ) Q) : Rn (ev m pc ls (AL y :: AL x :: st) σ) Q := w_nx hf (rfl) g
theorem w_i2f {x : Int} (hf : FF m pc (.i2f) ln a b c w) (g : Rn (ev m (pc + 1) ls (AF (FP.i2f (Int32.ofInt x)) :: st) σ) Q) : Rn (ev m pc ls (AI x :: st) σ) Q := w_nx hf (rfl) g
theorem w_i2d {x : Int} (hf : FF m pc (.i2d) ln a b c w) (g : Rn (ev m (pc + 1) ls (AD (FP.i2d (Int32.ofInt x)) :: st) σ) Q) : Rn (ev m pc ls (AI x :: st) σ) Q := w_nx hf (rfl) g
theorem w_f2d {x : UInt32} (hf : FF m pc (.f2d) ln a b c w) (hx : FP.f2d x &&& 0x7fffffffffffffff ≤ 0x7ff0000000000000) (g : Rn (ev m (pc + 1) ls (AD (FP.f2d x) :: st) σ) Q) : Rn (ev m pc ls (AF x :: st) σ) Q := w_nx hf (if_pos hx) g
theorem w_fdiv {x y : UInt32} (hf : FF m pc (.fdiv) ln a b c w) (hx : FP.fdiv x y &&& 0x7fffffff ≤ 0x7f800000) (g : Rn (ev m (pc + 1) ls (AF (FP.fdiv x y) :: st) σ) Q) : Rn (ev m pc ls (AF y :: AF x :: st) σ) Q := w_nx hf (if_pos hx) g
theorem w_ddiv {x y : UInt64} (hf : FF m pc (.ddiv) ln a b c w) (hx : FP.ddiv x y &&& 0x7fffffffffffffff ≤ 0x7ff0000000000000) (g : Rn (ev m (pc + 1) ls (AD (FP.ddiv x y) :: st) σ) Q) : Rn (ev m pc ls (AD y :: AD x :: st) σ) Q := w_nx hf (if_pos hx) g
theorem w_dcmp {x y : UInt64} {op : CmpOp} (hf : FF m pc (.dcmp op) ln a b c w) (g : Rn (ev m (pc + 1) ls (AI (Op.cmpValue (FP.dcmp x y) op).toInt :: st) σ) Q) : Rn (ev m pc ls (AD y :: AD x :: st) σ) Q := w_nx hf (rfl) g
theorem jmp_at {off : Int} {t : Nat} (ht : (pc : Int) + off = (t : Int)) : jmp pc off ls st σ = nx t ls st σ := by unfold jmp; rw [ht, if_pos (Int.natCast_nonneg t), Int.toNat_natCast]
theorem w_goto {off : Int} {t : Nat} (hf : FF m pc (.goto off) ln a b c w) (ht : (pc : Int) + off = (t : Int)) (g : Rn (ev m t ls st σ) Q) : Rn (ev m pc ls st σ) Q := w_nx hf (jmp_at ht) g
theorem w_if_eq {off x : Int} {t : Nat} (hf : FF m pc (.ifCond .eq off) ln a b c w) (ht : (pc : Int) + off = (t : Int)) (g1 : x = 0 → Rn (ev m t ls st σ) Q) (g2 : x ≠ 0 → Rn (ev m (pc + 3) ls st σ) Q) : Rn (ev m pc ls (AI x :: st) σ) Q := by
  by_cases hc : x = 0
  · exact w_nx hf ((if_pos (decide_eq_true hc)).trans (jmp_at ht)) (g1 hc)
  · exact w_nx hf (if_neg (by rw [Bool.not_eq_true]; exact decide_eq_false hc)) (g2 (by omega))
theorem w_ic_eq {off x y : Int} {t : Nat} (hf : FF m pc (.if_icmp .eq off) ln a b c w) (ht : (pc : Int) + off = (t : Int)) (g1 : x = y → Rn (ev m t ls st σ) Q) (g2 : x ≠ y → Rn (ev m (pc + 3) ls st σ) Q) : Rn (ev m pc ls (AI y :: AI x :: st) σ) Q := by
  by_cases hc : x = y
  · exact w_nx hf ((if_pos (decide_eq_true hc)).trans (jmp_at ht)) (g1 hc)
  · exact w_nx hf (if_neg (by rw [Bool.not_eq_true]; exact decide_eq_false hc)) (g2 (by omega))
theorem w_if_ne {off x : Int} {t : Nat} (hf : FF m pc (.ifCond .ne off) ln a b c w) (ht : (pc : Int) + off = (t : Int)) (g1 : x ≠ 0 → Rn (ev m t ls st σ) Q) (g2 : x = 0 → Rn (ev m (pc + 3) ls st σ) Q) : Rn (ev m pc ls (AI x :: st) σ) Q := by
  by_cases hc : x ≠ 0
  · exact w_nx hf ((if_pos (decide_eq_true hc)).trans (jmp_at ht)) (g1 hc)
  · exact w_nx hf (if_neg (by rw [Bool.not_eq_true]; exact decide_eq_false hc)) (g2 (by omega))
theorem w_ic_ne {off x y : Int} {t : Nat} (hf : FF m pc (.if_icmp .ne off) ln a b c w) (ht : (pc : Int) + off = (t : Int)) (g1 : x ≠ y → Rn (ev m t ls st σ) Q) (g2 : x = y → Rn (ev m (pc + 3) ls st σ) Q) : Rn (ev m pc ls (AI y :: AI x :: st) σ) Q := by
  by_cases hc : x ≠ y
  · exact w_nx hf ((if_pos (decide_eq_true hc)).trans (jmp_at ht)) (g1 hc)
  · exact w_nx hf (if_neg (by rw [Bool.not_eq_true]; exact decide_eq_false hc)) (g2 (by omega))
theorem w_if_lt {off x : Int} {t : Nat} (hf : FF m pc (.ifCond .lt off) ln a b c w) (ht : (pc : Int) + off = (t : Int)) (g1 : x < 0 → Rn (ev m t ls st σ) Q) (g2 : 0 ≤ x → Rn (ev m (pc + 3) ls st σ) Q) : Rn (ev m pc ls (AI x :: st) σ) Q := by
  by_cases hc : x < 0
  · exact w_nx hf ((if_pos (decide_eq_true hc)).trans (jmp_at ht)) (g1 hc)
  · exact w_nx hf (if_neg (by rw [Bool.not_eq_true]; exact decide_eq_false hc)) (g2 (by omega))
theorem w_ic_lt {off x y : Int} {t : Nat} (hf : FF m pc (.if_icmp .lt off) ln a b c w) (ht : (pc : Int) + off = (t : Int)) (g1 : x < y → Rn (ev m t ls st σ) Q) (g2 : y ≤ x → Rn (ev m (pc + 3) ls st σ) Q) : Rn (ev m pc ls (AI y :: AI x :: st) σ) Q := by
  by_cases hc : x < y
  · exact w_nx hf ((if_pos (decide_eq_true hc)).trans (jmp_at ht)) (g1 hc)
  · exact w_nx hf (if_neg (by rw [Bool.not_eq_true]; exact decide_eq_false hc)) (g2 (by omega))
theorem w_if_ge {off x : Int} {t : Nat} (hf : FF m pc (.ifCond .ge off) ln a b c w) (ht : (pc : Int) + off = (t : Int)) (g1 : 0 ≤ x → Rn (ev m t ls st σ) Q) (g2 : x < 0 → Rn (ev m (pc + 3) ls st σ) Q) : Rn (ev m pc ls (AI x :: st) σ) Q := by
  by_cases hc : 0 ≤ x
  · exact w_nx hf ((if_pos (decide_eq_true hc)).trans (jmp_at ht)) (g1 hc)
  · exact w_nx hf (if_neg (by rw [Bool.not_eq_true]; exact decide_eq_false hc)) (g2 (by omega))
theorem w_ic_ge {off x y : Int} {t : Nat} (hf : FF m pc (.if_icmp .ge off) ln a b c w) (ht : (pc : Int) + off = (t : Int)) (g1 : y ≤ x → Rn (ev m t ls st σ) Q) (g2 : x < y → Rn (ev m (pc + 3) ls st σ) Q) : Rn (ev m pc ls (AI y :: AI x :: st) σ) Q := by
  by_cases hc : y ≤ x
  · exact w_nx hf ((if_pos (decide_eq_true hc)).trans (jmp_at ht)) (g1 hc)
  · exact w_nx hf (if_neg (by rw [Bool.not_eq_true]; exact decide_eq_false hc)) (g2 (by omega))
theorem w_if_gt {off x : Int} {t : Nat} (hf : FF m pc (.ifCond .gt off) ln a b c w) (ht : (pc : Int) + off = (t : Int)) (g1 : 0 < x → Rn (ev m t ls st σ) Q) (g2 : x ≤ 0 → Rn (ev m (pc + 3) ls st σ) Q) : Rn (ev m pc ls (AI x :: st) σ) Q := by
  by_cases hc : 0 < x
  · exact w_nx hf ((if_pos (decide_eq_true hc)).trans (jmp_at ht)) (g1 hc)
  · exact w_nx hf (if_neg (by rw [Bool.not_eq_true]; exact decide_eq_false hc)) (g2 (by omega))
theorem w_ic_gt {off x y : Int} {t : Nat} (hf : FF m pc (.if_icmp .gt off) ln a b c w) (ht : (pc : Int) + off = (t : Int)) (g1 : y < x → Rn (ev m t ls st σ) Q) (g2 : x ≤ y → Rn (ev m (pc + 3) ls st σ) Q) : Rn (ev m pc ls (AI y :: AI x :: st) σ) Q := by
  by_cases hc : y < x
  · exact w_nx hf ((if_pos (decide_eq_true hc)).trans (jmp_at ht)) (g1 hc)
  · exact w_nx hf (if_neg (by rw [Bool.not_eq_true]; exact decide_eq_false hc)) (g2 (by omega))
theorem w_if_le {off x : Int} {t : Nat} (hf : FF m pc (.ifCond .le off) ln a b c w) (ht : (pc : Int) + off = (t : Int)) (g1 : x ≤ 0 → Rn (ev m t ls st σ) Q) (g2 : 0 < x → Rn (ev m (pc + 3) ls st σ) Q) : Rn (ev m pc ls (AI x :: st) σ) Q := by
  by_cases hc : x ≤ 0
  · exact w_nx hf ((if_pos (decide_eq_true hc)).trans (jmp_at ht)) (g1 hc)
  · exact w_nx hf (if_neg (by rw [Bool.not_eq_true]; exact decide_eq_false hc)) (g2 (by omega))
theorem w_ic_le {off x y : Int} {t : Nat} (hf : FF m pc (.if_icmp .le off) ln a b c w) (ht : (pc : Int) + off = (t : Int)) (g1 : x ≤ y → Rn (ev m t ls st σ) Q) (g2 : y < x → Rn (ev m (pc + 3) ls st σ) Q) : Rn (ev m pc ls (AI y :: AI x :: st) σ) Q := by
  by_cases hc : x ≤ y
  · exact w_nx hf ((if_pos (decide_eq_true hc)).trans (jmp_at ht)) (g1 hc)
  · exact w_nx hf (if_neg (by rw [Bool.not_eq_true]; exact decide_eq_false hc)) (g2 (by omega))
theorem w_ifb_eq {off : Int} {t : Nat} {P : Prop} (hf : FF m pc (.ifCond .eq off) ln a b c w) (ht : (pc : Int) + off = (t : Int)) (g1 : ¬ P → Rn (ev m t ls st σ) Q) (g2 : P → Rn (ev m (pc + 3) ls st σ) Q) : Rn (ev m pc ls (AI (b2i P) :: st) σ) Q :=
  w_if_eq hf ht (fun hc => g1 (b2i_0.mp hc)) (fun hc => g2 (by by_cases hP : P; exact hP; exact absurd (b2i_f hP) hc))
theorem w_ifb_ne {off : Int} {t : Nat} {P : Prop} (hf : FF m pc (.ifCond .ne off) ln a b c w) (ht : (pc : Int) + off = (t : Int)) (g1 : P → Rn (ev m t ls st σ) Q) (g2 : ¬ P → Rn (ev m (pc + 3) ls st σ) Q) : Rn (ev m pc ls (AI (b2i P) :: st) σ) Q :=
  w_if_ne hf ht (fun hc => g1 (by by_cases hP : P; exact hP; exact absurd (b2i_f hP) hc)) (fun hc => g2 (b2i_0.mp hc))
theorem w_ifl_eq {off x y : Int} {t : Nat} (hf : FF m pc (.ifCond .eq off) ln a b c w) (ht : (pc : Int) + off = (t : Int)) (g1 : x = y → Rn (ev m t ls st σ) Q) (g2 : x ≠ y → Rn (ev m (pc + 3) ls st σ) Q) : Rn (ev m pc ls (AI (lcx x y) :: st) σ) Q :=
  w_if_eq hf ht (fun hc => g1 (lcx_0.mp hc)) (fun hc => g2 (fun h9 => hc (lcx_0.mpr h9)))
theorem w_tab {d lo hi x : Int} {offs : Array Int} {off : Int} {t : Nat} (hf : FF m pc (.tableswitch d lo hi offs) ln a b c w) (hx : lo ≤ x ∧ x ≤ hi) (ho : offs[(x - lo).toNat]? = some off) (ht : (pc : Int) + off = (t : Int)) (g : Rn (ev m t ls st σ) Q) : Rn (ev m pc ls (AI x :: st) σ) Q :=
  w_nx hf (by show (if x < lo ∨ hi < x then _ else _) = _; rw [if_neg (by omega), ho]; exact jmp_at ht) g
theorem w_tabd {d lo hi x : Int} {offs : Array Int} {t : Nat} (hf : FF m pc (.tableswitch d lo hi offs) ln a b c w) (hx : x < lo ∨ hi < x) (ht : (pc : Int) + d = (t : Int)) (g : Rn (ev m t ls st σ) Q) : Rn (ev m pc ls (AI x :: st) σ) Q :=
  w_nx hf (by show (if x < lo ∨ hi < x then _ else _) = _; rw [if_pos hx]; exact jmp_at ht) g
theorem w_look {d x : Int} {ps : Array (Int × Int)} {off : Int} {t : Nat} (hf : FF m pc (.lookupswitch d ps) ln a b c w) (hp : (ps.toList.zip (ps.toList.drop 1)).all (fun (a, next) => a.1 < next.1) = true) (ho : Op.lookupswitch.offset ps.toList d x = off) (ht : (pc : Int) + off = (t : Int)) (g : Rn (ev m t ls st σ) Q) : Rn (ev m pc ls (AI x :: st) σ) Q :=
  w_nx hf (by subst ho; simp only [stepI]; rw [if_pos hp]; exact jmp_at ht) g
theorem w_getI {k n j : Nat} {rs : List Nat} {i : Nat} {v : Int} (hf : FF m pc (.getfield i) ln a j c w) (hc : c ≠ 1) (hk : kdK K k = some (a, n, rs)) (hv : h k j = v) (g : Rn (ev m (pc + 3) ls (AI v :: st) (K, h, R)) Q) : Rn (ev m pc ls (AR k :: st) (K, h, R)) Q :=
  w_nx hf (by subst hv; show (if okd (K, h, R) k = a then _ else _) = _; rw [if_pos (okd_of hk), if_neg hc]; rfl) g
theorem w_getR {k n j : Nat} {rs : List Nat} {i r : Nat} (hf : FF m pc (.getfield i) ln a j 1 w) (hk : kdK K k = some (a, n, rs)) (hr : rs[j]? = some r) (hp : 0 < r) (g : Rn (ev m (pc + 3) ls (AR r :: st) (K, h, R)) Q) : Rn (ev m pc ls (AR k :: st) (K, h, R)) Q :=
  w_nx hf (by
    show (if okd (K, h, R) k = a then _ else _) = _
    rw [if_pos (okd_of hk), if_pos rfl, orf_of hk, List.getD_eq_getElem?_getD, hr]
    show (match r with | 0 => none | j + 1 => nx (pc + 3) ls (AR (j + 1) :: st) (K, h, R)) = _
    cases r with
    | zero => cases hp
    | succ r => rfl) g
theorem w_putI {k n j : Nat} {rs : List Nat} {i : Nat} {x : Int} (hf : FF m pc (.putfield i) ln a j 0 w) (hk : kdK K k = some (a, n, rs)) (g : Rn (ev m (pc + 3) ls st (K, hput h k j x, R)) Q) : Rn (ev m pc ls (AI x :: AR k :: st) (K, h, R)) Q :=
  w_nx hf (by show (if okd (K, h, R) k = a ∧ _ then _ else _) = _; rw [if_pos ⟨okd_of hk, Or.inl rfl⟩]; rfl) g
theorem w_putZ {k n j : Nat} {rs : List Nat} {i : Nat} {x : Int} (hf : FF m pc (.putfield i) ln a j 2 w) (hk : kdK K k = some (a, n, rs)) (hx : x = 0 ∨ x = 1) (g : Rn (ev m (pc + 3) ls st (K, hput h k j x, R)) Q) : Rn (ev m pc ls (AI x :: AR k :: st) (K, h, R)) Q :=
  w_nx hf (by show (if okd (K, h, R) k = a ∧ _ then _ else _) = _; rw [if_pos ⟨okd_of hk, Or.inr ⟨rfl, hx⟩⟩]; rfl) g
theorem w_putR {k j r : Nat} {i : Nat} (hf : FF m pc (.putfield i) ln a j 1 w) (hk : okd σ k = a) (hp : 0 < r) (g : Rn (ev m (pc + 3) ls st (putr σ k j r)) Q) : Rn (ev m pc ls (AR r :: AR k :: st) σ) Q :=
  w_nx hf (by
    cases r with
    | zero => cases hp
    | succ r => show (if okd σ k = a ∧ _ then _ else _) = _; rw [if_pos ⟨hk, rfl⟩]) g
theorem w_alen {k n : Nat} {rs : List Nat} (hf : FF m pc (.arraylength) ln a b c w) (hk : kdK K k = some (20, n, rs)) (hn : (n : Int) ≤ 1000000) (g : Rn (ev m (pc + 1) ls (AI (n : Int) :: st) (K, h, R)) Q) : Rn (ev m pc ls (AR k :: st) (K, h, R)) Q :=
  w_nx hf (by show (if okd (K, h, R) k = 20 ∧ oln (K, h, R) k ≤ 1000000 then _ else _) = _; rw [oln_of hk, if_pos ⟨okd_of hk, hn⟩]) g
theorem w_iald {k n : Nat} {rs : List Nat} {i v : Int} (hf : FF m pc (.iaload) ln a b c w) (hk : kdK K k = some (20, n, rs)) (hi : 0 ≤ i ∧ i < (n : Int)) (hv : h k i.toNat = v) (g : Rn (ev m (pc + 1) ls (AI v :: st) (K, h, R)) Q) : Rn (ev m pc ls (AI i :: AR k :: st) (K, h, R)) Q :=
  w_nx hf (by subst hv; show (if okd (K, h, R) k = 20 ∧ 0 ≤ i ∧ i < oln (K, h, R) k then _ else _) = _; rw [oln_of hk, if_pos ⟨okd_of hk, hi⟩]; rfl) g
theorem w_iast {k n : Nat} {rs : List Nat} {i x : Int} (hf : FF m pc (.iastore) ln a b c w) (hk : kdK K k = some (20, n, rs)) (hi : 0 ≤ i ∧ i < (n : Int)) (g : Rn (ev m (pc + 1) ls st (K, hput h k i.toNat x, R)) Q) : Rn (ev m pc ls (AI x :: AI i :: AR k :: st) (K, h, R)) Q :=
  w_nx hf (by show (if okd (K, h, R) k = 20 ∧ 0 ≤ i ∧ i < oln (K, h, R) k then _ else _) = _; rw [oln_of hk, if_pos ⟨okd_of hk, hi⟩]; rfl) g
theorem w_bald {k n : Nat} {rs : List Nat} {i v : Int} (hf : FF m pc (.baload) ln a b c w) (hk : kdK K k = some (21, n, rs)) (hi : 0 ≤ i ∧ i < (n : Int)) (hv : h k i.toNat = v) (g : Rn (ev m (pc + 1) ls (AI v :: st) (K, h, R)) Q) : Rn (ev m pc ls (AI i :: AR k :: st) (K, h, R)) Q :=
  w_nx hf (by subst hv; show (if okd (K, h, R) k = 21 ∧ 0 ≤ i ∧ i < oln (K, h, R) k then _ else _) = _; rw [oln_of hk, if_pos ⟨okd_of hk, hi⟩]; rfl) g
theorem w_bast {k n : Nat} {rs : List Nat} {i x : Int} (hf : FF m pc (.bastore) ln a b c w) (hk : kdK K k = some (21, n, rs)) (hi : 0 ≤ i ∧ i < (n : Int)) (hx : x = 0 ∨ x = 1) (g : Rn (ev m (pc + 1) ls st (K, hput h k i.toNat x, R)) Q) : Rn (ev m pc ls (AI x :: AI i :: AR k :: st) (K, h, R)) Q :=
  w_nx hf (by show (if okd (K, h, R) k = 21 ∧ 0 ≤ i ∧ i < oln (K, h, R) k ∧ _ then _ else _) = _; rw [oln_of hk, if_pos ⟨okd_of hk, hi.1, hi.2, hx⟩]; rfl) g
theorem w_lald {k n : Nat} {rs : List Nat} {i v : Int} (hf : FF m pc (.laload) ln a b c w) (hk : kdK K k = some (22, n, rs)) (hi : 0 ≤ i ∧ i < (n : Int)) (hv : h k i.toNat = v) (g : Rn (ev m (pc + 1) ls (AL v :: st) (K, h, R)) Q) : Rn (ev m pc ls (AI i :: AR k :: st) (K, h, R)) Q :=
  w_nx hf (by subst hv; show (if okd (K, h, R) k = 22 ∧ 0 ≤ i ∧ i < oln (K, h, R) k then _ else _) = _; rw [oln_of hk, if_pos ⟨okd_of hk, hi⟩]; rfl) g
theorem w_last {k n : Nat} {rs : List Nat} {i x : Int} (hf : FF m pc (.lastore) ln a b c w) (hk : kdK K k = some (22, n, rs)) (hi : 0 ≤ i ∧ i < (n : Int)) (g : Rn (ev m (pc + 1) ls st (K, hput h k i.toNat x, R)) Q) : Rn (ev m pc ls (AL x :: AI i :: AR k :: st) (K, h, R)) Q :=
  w_nx hf (by show (if okd (K, h, R) k = 22 ∧ 0 ≤ i ∧ i < oln (K, h, R) k then _ else _) = _; rw [oln_of hk, if_pos ⟨okd_of hk, hi⟩]; rfl) g
theorem w_aald {k n A : Nat} {rs : List Nat} {i : Int} {r : Nat} (hf : FF m pc (.aaload) ln a b c w) (hk : kdK K k = some (A, n, rs)) (hA : A = 23 ∨ A = 24) (hi : 0 ≤ i ∧ i < (n : Int)) (hr : rs.getD i.toNat 0 = r) (hp : 0 < r) (g : Rn (ev m (pc + 1) ls (AR r :: st) (K, h, R)) Q) : Rn (ev m pc ls (AI i :: AR k :: st) (K, h, R)) Q :=
  w_nx hf (by
    show (if (okd (K, h, R) k = 23 ∨ okd (K, h, R) k = 24) ∧ 0 ≤ i ∧ i < oln (K, h, R) k then _ else _) = _
    rw [oln_of hk, okd_of hk, if_pos ⟨hA, hi⟩, orf_of hk, hr]
    cases r with
    | zero => cases hp
    | succ r => rfl) g
/-- the script -/
theorem w_slen {N c0 s0 : Nat} {f : Nat → Int} (hf : FF m pc (.arraylength) ln a b c w) (g : Rn (ev m (pc + 1) ls (AI (N : Int) :: st) (K, h, c0, s0, N, f)) Q) : Rn (ev m pc ls (AS 0 :: st) (K, h, c0, s0, N, f)) Q := w_nx hf rfl g
theorem w_sald {N c0 s0 : Nat} {f : Nat → Int} {i v : Int} (hf : FF m pc (.iaload) ln a b c w) (hi : 0 ≤ i ∧ i < (N : Int)) (hv : f i.toNat = v) (g : Rn (ev m (pc + 1) ls (AI v :: st) (K, h, c0, s0, N, f)) Q) : Rn (ev m pc ls (AI i :: AS 0 :: st) (K, h, c0, s0, N, f)) Q :=
  w_nx hf (by subst hv; exact if_pos hi) g
/-- texts -/
theorem w_tlen {i t : Nat} (hf : FF m pc (.invokevirtual i) ln a b 7 w) (h8 : acats st ≤ 8) (ht : t < am_txt.length) (g : Rn (ev m (pc + 3) ls (AI ((text (t + 1)).length) :: st) σ) Q) : Rn (ev m pc ls (AS (t + 1) :: st) σ) Q :=
  w_nx hf (by show stC _ _ _ _ _ _ _ = _; unfold stC; simp only [Nat.reduceEqDiff, or_false, if_false, if_true, reduceIte, false_or]; exact if_pos ⟨h8, ht⟩) g
theorem w_tchar {i t : Nat} {x v : Int} (hf : FF m pc (.invokevirtual i) ln a b 8 w) (h8 : acats st ≤ 8) (ht : t < am_txt.length) (hx : 0 ≤ x ∧ x < (text (t + 1)).length) (hv : (text (t + 1)).getD x.toNat 0 = v) (g : Rn (ev m (pc + 3) ls (AI v :: st) σ) Q) : Rn (ev m pc ls (AI x :: AS (t + 1) :: st) σ) Q :=
  w_nx hf (by subst hv; show stC _ _ _ _ _ _ _ = _; unfold stC; simp only [Nat.reduceEqDiff, or_false, if_false, if_true, reduceIte, false_or]; exact if_pos ⟨h8, ht, hx⟩) g
/-- System.arraycopy -/
theorem w_copy {i k1 k2 n1 n2 : Nat} {rs1 rs2 : List Nat} {n dp sp : Int} (hf : FF m pc (.invokestatic i) ln a b 6 w) (h8 : acats st ≤ 8) (hk1 : kdK K k1 = some (20, n1, rs1)) (hk2 : kdK K k2 = some (20, n2, rs2)) (hx : 0 ≤ sp ∧ 0 ≤ dp ∧ 0 ≤ n ∧ sp + n ≤ (n1 : Int) ∧ dp + n ≤ (n2 : Int)) (g : Rn (ev m (pc + 3) ls st (K, hcopy h k1 sp.toNat k2 dp.toNat n.toNat, R)) Q) : Rn (ev m pc ls (AI n :: AI dp :: AR k2 :: AI sp :: AR k1 :: st) (K, h, R)) Q :=
  w_nx hf (by
    show stC _ _ _ _ _ _ _ = _
    unfold stC
    simp only [Nat.reduceEqDiff, or_false, if_false, if_true, reduceIte, false_or]
    rw [okd_of hk1, okd_of hk2, oln_of hk1, oln_of hk2]
    exact if_pos ⟨h8, rfl, rfl, hx⟩) g
/-- answers -/
theorem w_iret {x : Int} (hf : FF m pc (.ireturn) ln a b c w) (hr : am_rt m = 1) (g : Q (.inl (AI x), σ)) : Rn (ev m pc ls [AI x] σ) Q :=
  ⟨_, ev_ret ((st_at hf).trans (if_pos (Or.inl hr))), g⟩
theorem w_zret {x : Int} (hf : FF m pc (.ireturn) ln a b c w) (hr : am_rt m = 2) (hx : x = 0 ∨ x = 1) (g : Q (.inl (AI x), σ)) : Rn (ev m pc ls [AI x] σ) Q :=
  ⟨_, ev_ret ((st_at hf).trans (if_pos (Or.inr ⟨hr, hx⟩))), g⟩
theorem w_fret {x : UInt32} (hf : FF m pc (.freturn) ln a b c w) (hr : am_rt m = 3) (g : Q (.inl (AF x), σ)) : Rn (ev m pc ls [AF x] σ) Q :=
  ⟨_, ev_ret ((st_at hf).trans (if_pos hr)), g⟩
theorem w_dret {x : UInt64} (hf : FF m pc (.dreturn) ln a b c w) (hr : am_rt m = 4) (g : Q (.inl (AD x), σ)) : Rn (ev m pc ls [AD x] σ) Q :=
  ⟨_, ev_ret ((st_at hf).trans (if_pos hr)), g⟩
theorem w_ret (hf : FF m pc (.return_) ln a b c w) (hr : am_rt m = 0) (g : Q (.inl AU, σ)) : Rn (ev m pc ls [] σ) Q :=
  ⟨_, ev_ret ((st_at hf).trans (if_pos hr)), g⟩
theorem w_thr {i : Nat} (hf : FF m pc (.new i) ln a b 9 w) (h8 : acats st ≤ 8) (g : Q (.inr a, bump σ)) : Rn (ev m pc ls st σ) Q :=
  ⟨_, ev_thr ((st_at hf).trans (by simp only [stepI, reduceIte, if_pos h8])), g⟩
/-- calls -/
def CalOK (y : Nat) (as rest : List AV) : Prop := acats rest ≤ 8 ∧ as.all cat1 = true ∧ as.length ≤ am_ml y
theorem w_bnd {ins : Instr} {y pc1 : Nat} {as rest ent : List AV} {Q1 : Out → Prop} (hf : FF m pc ins ln a b c w) (hs : stepI m pc ls st σ ins a b c = some (.inr (.inl (y, as, pc1, ls, rest, σ)))) (hen : entryL y as = ent) (he : Rn (ev y 0 ent [] σ) Q1) (g : ∀ o, Q1 o → Rn (bnd m y (some o) (fun v σ2 => ev m pc1 ls (pushV y v rest) σ2)) Q) : Rn (ev m pc ls st σ) Q := by
  rw [ev_call ((st_at hf).trans hs), hen]
  obtain ⟨o, h1, h2⟩ := he
  rw [h1]
  exact g o h2
theorem w_sS {i y nb : Nat} {as rest : List AV} {c : Nat} (hc : c = 1 ∨ c = 4) (hl : nb ≤ st.length) (has : (st.take nb).reverse = as) (hrest : st.drop nb = rest) (hcal : CalOK y as rest) : stepI m pc ls st σ (.invokestatic i) y nb c = some (.inr (.inl (y, as, pc + 3, ls, rest, σ))) := by
  subst has; subst hrest
  show stC _ _ _ _ _ _ _ = _
  unfold stC
  rw [if_pos hc, if_pos hl]
  exact if_pos hcal
theorem w_sV {ins : Instr} {i y nb k : Nat} {as rest : List AV} {c : Nat} (hi : ins = .invokevirtual i ∨ ins = .invokespecial i) (hc : c = 0 ∨ c = 2 ∨ c = 3) (hrest : st.drop nb = AR k :: rest) (hp : 0 < k) (hk : okd σ k = am_ci y) (has : AR k :: (st.take nb).reverse = as) (hcal : CalOK y as rest) : stepI m pc ls st σ ins y nb c = some (.inr (.inl (y, as, pc + 3, ls, rest, σ))) := by
  subst has
  have e : stepI m pc ls st σ ins y nb c = stC pc ls st σ y nb c := by rcases hi with rfl | rfl <;> rfl
  rw [e]
  unfold stC
  rw [if_neg (by omega), if_pos hc, hrest]
  cases k with
  | zero => cases hp
  | succ k => exact (if_pos hk).trans (if_pos hcal)
theorem w_cS {i y nb : Nat} {as rest ent st1 : List AV} {v : AV} {σ2 : Sg} (hf : FF m pc (.invokestatic i) ln y nb c w) (hc : c = 1 ∨ c = 4) (hl : nb ≤ st.length) (has : (st.take nb).reverse = as) (hrest : st.drop nb = rest) (hcal : CalOK y as rest) (hen : entryL y as = ent) (he : ev y 0 ent [] σ = some (.inl v, σ2)) (hpv : pushV y v rest = st1) (g : Rn (ev m (pc + 3) ls st1 σ2) Q) : Rn (ev m pc ls st σ) Q :=
  w_bnd hf (w_sS hc hl has hrest hcal) hen (Rn.to (Q := fun q => q = (.inl v, σ2)) he rfl) (fun o ho => by subst ho; subst hpv; exact g)
theorem w_cV {i y nb k : Nat} {as rest ent st1 : List AV} {v : AV} {σ2 : Sg} (hf : FF m pc (.invokevirtual i) ln y nb c w) (hc : c = 0 ∨ c = 2 ∨ c = 3) (hrest : st.drop nb = AR k :: rest) (hp : 0 < k) (hk : okd σ k = am_ci y) (has : AR k :: (st.take nb).reverse = as) (hcal : CalOK y as rest) (hen : entryL y as = ent) (he : ev y 0 ent [] σ = some (.inl v, σ2)) (hpv : pushV y v rest = st1) (g : Rn (ev m (pc + 3) ls st1 σ2) Q) : Rn (ev m pc ls st σ) Q :=
  w_bnd hf (w_sV (Or.inl rfl) hc hrest hp hk has hcal) hen (Rn.to (Q := fun q => q = (.inl v, σ2)) he rfl) (fun o ho => by subst ho; subst hpv; exact g)
/-- calls whose contract says less than all -/
theorem w_qS {i y nb : Nat} {as rest ent : List AV} {Q1 : Out → Prop} (hf : FF m pc (.invokestatic i) ln y nb c w) (hc : c = 1 ∨ c = 4) (hl : nb ≤ st.length) (has : (st.take nb).reverse = as) (hrest : st.drop nb = rest) (hcal : CalOK y as rest) (hen : entryL y as = ent) (he : Rn (ev y 0 ent [] σ) Q1) (g : ∀ o, Q1 o → Rn (bnd m y (some o) (fun v σ2 => ev m (pc + 3) ls (pushV y v rest) σ2)) Q) : Rn (ev m pc ls st σ) Q :=
  w_bnd hf (w_sS hc hl has hrest hcal) hen he g
theorem w_qV {i y nb k : Nat} {as rest ent : List AV} {Q1 : Out → Prop} (hf : FF m pc (.invokevirtual i) ln y nb c w) (hc : c = 0 ∨ c = 2 ∨ c = 3) (hrest : st.drop nb = AR k :: rest) (hp : 0 < k) (hk : okd σ k = am_ci y) (has : AR k :: (st.take nb).reverse = as) (hcal : CalOK y as rest) (hen : entryL y as = ent) (he : Rn (ev y 0 ent [] σ) Q1) (g : ∀ o, Q1 o → Rn (bnd m y (some o) (fun v σ2 => ev m (pc + 3) ls (pushV y v rest) σ2)) Q) : Rn (ev m pc ls st σ) Q :=
  w_bnd hf (w_sV (Or.inl rfl) hc hrest hp hk has hcal) hen he g
/-- a call that may throw out of this method -/
theorem w_xS {i y nb : Nat} {as rest ent st1 : List AV} {P : Prop} {E : Nat} {σ2 σ3 : Sg} {v : AV} (hf : FF m pc (.invokestatic i) ln y nb c w) (hc : c = 1 ∨ c = 4) (hl : nb ≤ st.length) (has : (st.take nb).reverse = as) (hrest : st.drop nb = rest) (hcal : CalOK y as rest) (hen : entryL y as = ent) (hnt : am_nt y = false) (hn : am_hn m = []) (he : (P ∧ ev y 0 ent [] σ = some (.inl v, σ2)) ∨ (¬ P ∧ ev y 0 ent [] σ = some (.inr E, σ3))) (hpv : pushV y v rest = st1) (g1 : P → Rn (ev m (pc + 3) ls st1 σ2) Q) (g2 : ¬ P → Q (.inr E, σ3)) : Rn (ev m pc ls st σ) Q := by
  rcases he with ⟨hP, he⟩ | ⟨hP, he⟩
  · exact w_cS hf hc hl has hrest hcal hen he hpv (g1 hP)
  · refine w_bnd hf (w_sS hc hl has hrest hcal) hen (Rn.to (Q := fun q => q = (.inr E, σ3)) he rfl) (fun o ho => ?_)
    subst ho
    refine ⟨(.inr E, σ3), ?_, g2 hP⟩
    show hnd m y E σ3 = _
    unfold hnd
    rw [if_neg (by rw [hnt]; decide), if_pos hn]
theorem w_bok {y pc1 : Nat} {rest st1 : List AV} {v : AV} {σ2 : Sg} (hpv : pushV y v rest = st1) (g : Rn (ev m pc1 ls st1 σ2) Q) : Rn (bnd m y (some (.inl v, σ2)) (fun v σ2 => ev m pc1 ls (pushV y v rest) σ2)) Q := by
  subst hpv
  exact g
end WALK
theorem ob_t {p : Prop} {σ : Sg} (h : p) : ((Sum.inl (AI 1), σ) : Out) = (Sum.inl (AI (b2i p)), σ) := by rw [b2i_t h]
theorem ob_f {p : Prop} {σ : Sg} (h : ¬ p) : ((Sum.inl (AI 0), σ) : Out) = (Sum.inl (AI (b2i p)), σ) := by rw [b2i_f h]
theorem oh_eq {v : AV} {K : List AKd} {h h1 : Nat → Nat → Int} {R : R4} (e : ∀ a b, h a b = h1 a b) : ((Sum.inl v, (K, h, R)) : Out) = (Sum.inl v, (K, h1, R)) := by rw [show h = h1 from funext fun a => funext fun b => e a b]
/-- reads -/
theorem hput_w {h : Nat → Nat → Int} {k j a : Nat} {v : Int} {w : Nat → Int} (e : h a = w) (hk : a ≠ k) : hput h k j v a = w := by
  subst e
  exact funext fun b => if_neg (fun e => hk e.1)
theorem hput_id {h : Nat → Nat → Int} {k j : Nat} {v : Int} (e : h k j = v) : hput h k j v = h := by
  refine funext fun a => funext fun b => ?_
  unfold hput
  split
  · next q => rw [q.1, q.2, e]
  · rfl
theorem hput_ss {h : Nat → Nat → Int} {k j : Nat} {u v : Int} : hput (hput h k j u) k j v = hput h k j v := by
  refine funext fun a => funext fun b => ?_
  unfold hput
  split <;> rfl
theorem hput_c {h : Nat → Nat → Int} {k j k1 j1 : Nat} {u v : Int} (e : k ≠ k1 ∨ j ≠ j1) : hput (hput h k j u) k1 j1 v = hput (hput h k1 j1 v) k j u := by
  refine funext fun a => funext fun b => ?_
  unfold hput
  split
  · next q =>
    rw [if_neg (fun z => by omega)]
  · rfl
theorem hput_s {h : Nat → Nat → Int} {k j : Nat} {v : Int} : hput h k j v k j = v := if_pos ⟨rfl, rfl⟩
theorem hput_k {h : Nat → Nat → Int} {k j a b : Nat} {v : Int} (hk : a ≠ k) : hput h k j v a b = h a b := if_neg (fun e => hk e.1)
theorem hput_j {h : Nat → Nat → Int} {k j a b : Nat} {v : Int} (hj : b ≠ j) : hput h k j v a b = h a b := if_neg (fun e => hj e.2)

theorem sto_1_0 {a0 v : AV} : sto [a0] 0 v = [v] := rfl
theorem sto_2_0 {a0 a1 v : AV} : sto [a0, a1] 0 v = [v, a1] := rfl
theorem sto_2_1 {a0 a1 v : AV} (hc : cat1 a0 = true) : sto [a0, a1] 1 v = [a0, v] := by
  have e : k2 a0 = a0 := if_pos hc
  show [k2 a0, v] = _
  rw [e]
theorem sto_3_0 {a0 a1 a2 v : AV} : sto [a0, a1, a2] 0 v = [v, a1, a2] := rfl
theorem sto_3_1 {a0 a1 a2 v : AV} (hc : cat1 a0 = true) : sto [a0, a1, a2] 1 v = [a0, v, a2] := by
  have e : k2 a0 = a0 := if_pos hc
  show [k2 a0, v, a2] = _
  rw [e]
theorem sto_3_2 {a0 a1 a2 v : AV} (hc : cat1 a1 = true) : sto [a0, a1, a2] 2 v = [a0, a1, v] := by
  have e : k2 a1 = a1 := if_pos hc
  show [a0, k2 a1, v] = _
  rw [e]
theorem sto_4_0 {a0 a1 a2 a3 v : AV} : sto [a0, a1, a2, a3] 0 v = [v, a1, a2, a3] := rfl
theorem sto_4_1 {a0 a1 a2 a3 v : AV} (hc : cat1 a0 = true) : sto [a0, a1, a2, a3] 1 v = [a0, v, a2, a3] := by
  have e : k2 a0 = a0 := if_pos hc
  show [k2 a0, v, a2, a3] = _
  rw [e]
theorem sto_4_2 {a0 a1 a2 a3 v : AV} (hc : cat1 a1 = true) : sto [a0, a1, a2, a3] 2 v = [a0, a1, v, a3] := by
  have e : k2 a1 = a1 := if_pos hc
  show [a0, k2 a1, v, a3] = _
  rw [e]
theorem sto_4_3 {a0 a1 a2 a3 v : AV} (hc : cat1 a2 = true) : sto [a0, a1, a2, a3] 3 v = [a0, a1, a2, v] := by
  have e : k2 a2 = a2 := if_pos hc
  show [a0, a1, k2 a2, v] = _
  rw [e]
theorem sto_5_0 {a0 a1 a2 a3 a4 v : AV} : sto [a0, a1, a2, a3, a4] 0 v = [v, a1, a2, a3, a4] := rfl
theorem sto_5_1 {a0 a1 a2 a3 a4 v : AV} (hc : cat1 a0 = true) : sto [a0, a1, a2, a3, a4] 1 v = [a0, v, a2, a3, a4] := by
  have e : k2 a0 = a0 := if_pos hc
  show [k2 a0, v, a2, a3, a4] = _
  rw [e]
theorem sto_5_2 {a0 a1 a2 a3 a4 v : AV} (hc : cat1 a1 = true) : sto [a0, a1, a2, a3, a4] 2 v = [a0, a1, v, a3, a4] := by
  have e : k2 a1 = a1 := if_pos hc
  show [a0, k2 a1, v, a3, a4] = _
  rw [e]
theorem sto_5_3 {a0 a1 a2 a3 a4 v : AV} (hc : cat1 a2 = true) : sto [a0, a1, a2, a3, a4] 3 v = [a0, a1, a2, v, a4] := by
  have e : k2 a2 = a2 := if_pos hc
  show [a0, a1, k2 a2, v, a4] = _
  rw [e]
theorem sto_5_4 {a0 a1 a2 a3 a4 v : AV} (hc : cat1 a3 = true) : sto [a0, a1, a2, a3, a4] 4 v = [a0, a1, a2, a3, v] := by
  have e : k2 a3 = a3 := if_pos hc
  show [a0, a1, a2, k2 a3, v] = _
  rw [e]
theorem sto_6_0 {a0 a1 a2 a3 a4 a5 v : AV} : sto [a0, a1, a2, a3, a4, a5] 0 v = [v, a1, a2, a3, a4, a5] := rfl
theorem sto_6_1 {a0 a1 a2 a3 a4 a5 v : AV} (hc : cat1 a0 = true) : sto [a0, a1, a2, a3, a4, a5] 1 v = [a0, v, a2, a3, a4, a5] := by
  have e : k2 a0 = a0 := if_pos hc
  show [k2 a0, v, a2, a3, a4, a5] = _
  rw [e]
theorem sto_6_2 {a0 a1 a2 a3 a4 a5 v : AV} (hc : cat1 a1 = true) : sto [a0, a1, a2, a3, a4, a5] 2 v = [a0, a1, v, a3, a4, a5] := by
  have e : k2 a1 = a1 := if_pos hc
  show [a0, k2 a1, v, a3, a4, a5] = _
  rw [e]
theorem sto_6_3 {a0 a1 a2 a3 a4 a5 v : AV} (hc : cat1 a2 = true) : sto [a0, a1, a2, a3, a4, a5] 3 v = [a0, a1, a2, v, a4, a5] := by
  have e : k2 a2 = a2 := if_pos hc
  show [a0, a1, k2 a2, v, a4, a5] = _
  rw [e]
theorem sto_6_4 {a0 a1 a2 a3 a4 a5 v : AV} (hc : cat1 a3 = true) : sto [a0, a1, a2, a3, a4, a5] 4 v = [a0, a1, a2, a3, v, a5] := by
  have e : k2 a3 = a3 := if_pos hc
  show [a0, a1, a2, k2 a3, v, a5] = _
  rw [e]
theorem sto_6_5 {a0 a1 a2 a3 a4 a5 v : AV} (hc : cat1 a4 = true) : sto [a0, a1, a2, a3, a4, a5] 5 v = [a0, a1, a2, a3, a4, v] := by
  have e : k2 a4 = a4 := if_pos hc
  show [a0, a1, a2, a3, k2 a4, v] = _
  rw [e]
theorem sto_7_0 {a0 a1 a2 a3 a4 a5 a6 v : AV} : sto [a0, a1, a2, a3, a4, a5, a6] 0 v = [v, a1, a2, a3, a4, a5, a6] := rfl
theorem sto_7_1 {a0 a1 a2 a3 a4 a5 a6 v : AV} (hc : cat1 a0 = true) : sto [a0, a1, a2, a3, a4, a5, a6] 1 v = [a0, v, a2, a3, a4, a5, a6] := by
  have e : k2 a0 = a0 := if_pos hc
  show [k2 a0, v, a2, a3, a4, a5, a6] = _
  rw [e]
theorem sto_7_2 {a0 a1 a2 a3 a4 a5 a6 v : AV} (hc : cat1 a1 = true) : sto [a0, a1, a2, a3, a4, a5, a6] 2 v = [a0, a1, v, a3, a4, a5, a6] := by
  have e : k2 a1 = a1 := if_pos hc
  show [a0, k2 a1, v, a3, a4, a5, a6] = _
  rw [e]
theorem sto_7_3 {a0 a1 a2 a3 a4 a5 a6 v : AV} (hc : cat1 a2 = true) : sto [a0, a1, a2, a3, a4, a5, a6] 3 v = [a0, a1, a2, v, a4, a5, a6] := by
  have e : k2 a2 = a2 := if_pos hc
  show [a0, a1, k2 a2, v, a4, a5, a6] = _
  rw [e]
theorem sto_7_4 {a0 a1 a2 a3 a4 a5 a6 v : AV} (hc : cat1 a3 = true) : sto [a0, a1, a2, a3, a4, a5, a6] 4 v = [a0, a1, a2, a3, v, a5, a6] := by
  have e : k2 a3 = a3 := if_pos hc
  show [a0, a1, a2, k2 a3, v, a5, a6] = _
  rw [e]
theorem sto_7_5 {a0 a1 a2 a3 a4 a5 a6 v : AV} (hc : cat1 a4 = true) : sto [a0, a1, a2, a3, a4, a5, a6] 5 v = [a0, a1, a2, a3, a4, v, a6] := by
  have e : k2 a4 = a4 := if_pos hc
  show [a0, a1, a2, a3, k2 a4, v, a6] = _
  rw [e]
theorem sto_7_6 {a0 a1 a2 a3 a4 a5 a6 v : AV} (hc : cat1 a5 = true) : sto [a0, a1, a2, a3, a4, a5, a6] 6 v = [a0, a1, a2, a3, a4, a5, v] := by
  have e : k2 a5 = a5 := if_pos hc
  show [a0, a1, a2, a3, a4, k2 a5, v] = _
  rw [e]
theorem sto_8_0 {a0 a1 a2 a3 a4 a5 a6 a7 v : AV} : sto [a0, a1, a2, a3, a4, a5, a6, a7] 0 v = [v, a1, a2, a3, a4, a5, a6, a7] := rfl
theorem sto_8_1 {a0 a1 a2 a3 a4 a5 a6 a7 v : AV} (hc : cat1 a0 = true) : sto [a0, a1, a2, a3, a4, a5, a6, a7] 1 v = [a0, v, a2, a3, a4, a5, a6, a7] := by
  have e : k2 a0 = a0 := if_pos hc
  show [k2 a0, v, a2, a3, a4, a5, a6, a7] = _
  rw [e]
theorem sto_8_2 {a0 a1 a2 a3 a4 a5 a6 a7 v : AV} (hc : cat1 a1 = true) : sto [a0, a1, a2, a3, a4, a5, a6, a7] 2 v = [a0, a1, v, a3, a4, a5, a6, a7] := by
  have e : k2 a1 = a1 := if_pos hc
  show [a0, k2 a1, v, a3, a4, a5, a6, a7] = _
  rw [e]
theorem sto_8_3 {a0 a1 a2 a3 a4 a5 a6 a7 v : AV} (hc : cat1 a2 = true) : sto [a0, a1, a2, a3, a4, a5, a6, a7] 3 v = [a0, a1, a2, v, a4, a5, a6, a7] := by
  have e : k2 a2 = a2 := if_pos hc
  show [a0, a1, k2 a2, v, a4, a5, a6, a7] = _
  rw [e]
theorem sto_8_4 {a0 a1 a2 a3 a4 a5 a6 a7 v : AV} (hc : cat1 a3 = true) : sto [a0, a1, a2, a3, a4, a5, a6, a7] 4 v = [a0, a1, a2, a3, v, a5, a6, a7] := by
  have e : k2 a3 = a3 := if_pos hc
  show [a0, a1, a2, k2 a3, v, a5, a6, a7] = _
  rw [e]
theorem sto_8_5 {a0 a1 a2 a3 a4 a5 a6 a7 v : AV} (hc : cat1 a4 = true) : sto [a0, a1, a2, a3, a4, a5, a6, a7] 5 v = [a0, a1, a2, a3, a4, v, a6, a7] := by
  have e : k2 a4 = a4 := if_pos hc
  show [a0, a1, a2, a3, k2 a4, v, a6, a7] = _
  rw [e]
theorem sto_8_6 {a0 a1 a2 a3 a4 a5 a6 a7 v : AV} (hc : cat1 a5 = true) : sto [a0, a1, a2, a3, a4, a5, a6, a7] 6 v = [a0, a1, a2, a3, a4, a5, v, a7] := by
  have e : k2 a5 = a5 := if_pos hc
  show [a0, a1, a2, a3, a4, k2 a5, v, a7] = _
  rw [e]
theorem sto_8_7 {a0 a1 a2 a3 a4 a5 a6 a7 v : AV} (hc : cat1 a6 = true) : sto [a0, a1, a2, a3, a4, a5, a6, a7] 7 v = [a0, a1, a2, a3, a4, a5, a6, v] := by
  have e : k2 a6 = a6 := if_pos hc
  show [a0, a1, a2, a3, a4, a5, k2 a6, v] = _
  rw [e]
theorem sto_9_0 {a0 a1 a2 a3 a4 a5 a6 a7 a8 v : AV} : sto [a0, a1, a2, a3, a4, a5, a6, a7, a8] 0 v = [v, a1, a2, a3, a4, a5, a6, a7, a8] := rfl
theorem sto_9_1 {a0 a1 a2 a3 a4 a5 a6 a7 a8 v : AV} (hc : cat1 a0 = true) : sto [a0, a1, a2, a3, a4, a5, a6, a7, a8] 1 v = [a0, v, a2, a3, a4, a5, a6, a7, a8] := by
  have e : k2 a0 = a0 := if_pos hc
  show [k2 a0, v, a2, a3, a4, a5, a6, a7, a8] = _
  rw [e]
theorem sto_9_2 {a0 a1 a2 a3 a4 a5 a6 a7 a8 v : AV} (hc : cat1 a1 = true) : sto [a0, a1, a2, a3, a4, a5, a6, a7, a8] 2 v = [a0, a1, v, a3, a4, a5, a6, a7, a8] := by
  have e : k2 a1 = a1 := if_pos hc
  show [a0, k2 a1, v, a3, a4, a5, a6, a7, a8] = _
  rw [e]
theorem sto_9_3 {a0 a1 a2 a3 a4 a5 a6 a7 a8 v : AV} (hc : cat1 a2 = true) : sto [a0, a1, a2, a3, a4, a5, a6, a7, a8] 3 v = [a0, a1, a2, v, a4, a5, a6, a7, a8] := by
  have e : k2 a2 = a2 := if_pos hc
  show [a0, a1, k2 a2, v, a4, a5, a6, a7, a8] = _
  rw [e]
theorem sto_9_4 {a0 a1 a2 a3 a4 a5 a6 a7 a8 v : AV} (hc : cat1 a3 = true) : sto [a0, a1, a2, a3, a4, a5, a6, a7, a8] 4 v = [a0, a1, a2, a3, v, a5, a6, a7, a8] := by
  have e : k2 a3 = a3 := if_pos hc
  show [a0, a1, a2, k2 a3, v, a5, a6, a7, a8] = _
  rw [e]
theorem sto_9_5 {a0 a1 a2 a3 a4 a5 a6 a7 a8 v : AV} (hc : cat1 a4 = true) : sto [a0, a1, a2, a3, a4, a5, a6, a7, a8] 5 v = [a0, a1, a2, a3, a4, v, a6, a7, a8] := by
  have e : k2 a4 = a4 := if_pos hc
  show [a0, a1, a2, a3, k2 a4, v, a6, a7, a8] = _
  rw [e]
theorem sto_9_6 {a0 a1 a2 a3 a4 a5 a6 a7 a8 v : AV} (hc : cat1 a5 = true) : sto [a0, a1, a2, a3, a4, a5, a6, a7, a8] 6 v = [a0, a1, a2, a3, a4, a5, v, a7, a8] := by
  have e : k2 a5 = a5 := if_pos hc
  show [a0, a1, a2, a3, a4, k2 a5, v, a7, a8] = _
  rw [e]
theorem sto_9_7 {a0 a1 a2 a3 a4 a5 a6 a7 a8 v : AV} (hc : cat1 a6 = true) : sto [a0, a1, a2, a3, a4, a5, a6, a7, a8] 7 v = [a0, a1, a2, a3, a4, a5, a6, v, a8] := by
  have e : k2 a6 = a6 := if_pos hc
  show [a0, a1, a2, a3, a4, a5, k2 a6, v, a8] = _
  rw [e]
theorem sto_9_8 {a0 a1 a2 a3 a4 a5 a6 a7 a8 v : AV} (hc : cat1 a7 = true) : sto [a0, a1, a2, a3, a4, a5, a6, a7, a8] 8 v = [a0, a1, a2, a3, a4, a5, a6, a7, v] := by
  have e : k2 a7 = a7 := if_pos hc
  show [a0, a1, a2, a3, a4, a5, a6, k2 a7, v] = _
  rw [e]
theorem sto2_9_5 {a0 a1 a2 a3 a4 a5 a6 a7 a8 v : AV} (hc : cat1 a4 = true) : sto2 [a0, a1, a2, a3, a4, a5, a6, a7, a8] 5 v = [a0, a1, a2, a3, a4, v, AU, a7, a8] := by
  unfold sto2
  rw [sto_9_5 hc]
  rfl
theorem sto2_9_7 {a0 a1 a2 a3 a4 a5 a6 a7 a8 v : AV} (hc : cat1 a6 = true) : sto2 [a0, a1, a2, a3, a4, a5, a6, a7, a8] 7 v = [a0, a1, a2, a3, a4, a5, a6, v, AU] := by
  unfold sto2
  rw [sto_9_7 hc]
  rfl

/-! THE WORLD: which cells of the JVM's heap hold the small machine's objects -/
section WORLD
variable (base : Nat) (sx : Nat → Nat) (dC : Nat → ClassId) (dI : Nat → Nat → Nat)
/-- a value -/
def cv (v : AV) : Value := match v with
  | .inl x => .int (Int32.ofInt x)
  | .inr (.inl 0) => .null
  | .inr (.inl (k + 1)) => .ref (base + k)
  | .inr (.inr (.inl x)) => .long (Int64.ofInt x)
  | .inr (.inr (.inr (.inl x))) => .float x
  | .inr (.inr (.inr (.inr (.inl x)))) => .double x
  | .inr (.inr (.inr (.inr (.inr (.inl k))))) => .ref (sx k)
  | .inr (.inr (.inr (.inr (.inr (.inr _))))) => .null
def cr (k : Nat) : Value := match k with
  | 0 => .null
  | k + 1 => .ref (base + k)
def co (k : Nat) : Option Nat := match k with
  | 0 => none
  | k + 1 => some (base + k)
theorem cr_co (k : Nat) : va_rf (co base k) = cr base k := by cases k <;> rfl
/-- a slot of an object: a reference or a number, by the field's type -/
def fval (σ : Sg) (k : Nat) (q : AKd) (j : Nat) : Value := match vwCl[q.1]? with
  | some (_, T, _) => if ftc (T j).2.2.1 = 1 then cr base (q.2.2.getD j 0) else .int (Int32.ofInt (get σ k j))
  | none => .null
/-- what the cell of object k is -/
def entE (ca : Nat → ClassId) (σ : Sg) (k : Nat) (q : AKd) : va_E :=
  if q.1 < 20 then .inr (q.1, (List.range q.2.1).map (fval base σ k q))
  else if q.1 < 22 then .inl (ca k, q.2.1, .inl (fun j => Int32.ofInt (get σ k j)))
  else if q.1 = 22 then .inl (ca k, q.2.1, .inr (.inl (fun j => Int64.ofInt (get σ k j))))
  else .inl (ca k, q.2.1, .inr (.inr (.inr (.inr (fun j => co base (q.2.2.getD j 0))))))
def aty (q : Nat) : FieldType := if q = 20 then .int else if q = 21 then .boolean else if q = 22 then .long else if q = 23 then .object RX9 else .array .int
def wsOf (ca : Nat → ClassId) (σ : Sg) : va_W := σ.1.mapIdx (fun i q => (base + i, entE base ca σ (i + 1) q))
def kdOK (q : AKd) : Prop := ((q.1 < 20 ∧ ∃ (C : String) (T : u_T), vwCl[q.1]? = some (C, T, q.2.1)) ∨ (20 ≤ q.1 ∧ q.1 ≤ 24)) ∧ (q.1 = 20 ∨ q.1 = 21 ∨ q.1 = 22 ∨ q.2.2.length = q.2.1)
/-- the world's cells lie in H -/
def Wd (σ : Sg) (s : State) (H : Heap) : Prop := ∃ (ca : Nat → ClassId) (tys : List (ClassId × FieldType)), va_K (dC, dI) vwCl tys s ∧ (∀ (i : Nat) (q : AKd), σ.1[i]? = some q → kdOK q ∧ (20 ≤ q.1 → ∃ t0 : Nat, tys[t0]? = some (ca (i + 1), aty q.1)))
  ∧ va_P (dC, dI) vwCl (wsOf base ca σ) H ∧ va_D (fun q => base ≤ q) (wsOf base ca σ) ∧ ∀ k j, inR (get σ k j)
/-- a text constant: its object, its bytes -/
def StrOK (k : Nat) (A : Nat → Prop) (s : State) (H : Heap) : Prop := ∃ (q : String × Nat × String) (ad : Nat), am_strs[k]? = some q ∧ vk_R q.1 q.2.1 q.2.2 (sx (k + 1)) s ∧ va_O "java/lang/String" (sx (k + 1)) A s H ∧ va_OF "java/lang/String" "coder" "B" (.int 0) (sx (k + 1)) A s H
  ∧ va_OF "java/lang/String" "value" "[B" (.ref ad) (sx (k + 1)) A s H ∧ va_T .byte ad (text (k + 1)).length (fun j => .int (Int32.ofInt ((text (k + 1)).getD j 0))) A s H
/-- what lies outside the world and stays -/
def Ex (σ : Sg) (s : State) (H : Heap) : Prop := (∀ w ∈ lw_tbl, okW w = true → w.before #[] s = true) ∧ (∀ ty, ty = .int ∨ ty = .boolean ∨ ty = .long → (Cond.arrayClass ty).before #[] s = true) ∧ (Cond.arrayOver (.object RX9)).before #[] s = true ∧ (Cond.arrayOver (.array .int)).before #[] s = true
  ∧ (∀ k, k < am_strs.length → StrOK sx k (fun q => base ≤ q) s H) ∧ va_X (sx 0) σ.2.2.2.2.1 (fun j => Int32.ofInt (σ.2.2.2.2.2 j)) s H ∧ sx 0 < base
  ∧ vx_Zq Bundle.tN "UNASSIGNED_STACK" Bundle.steD (fun q => base ≤ q) s H ∧ vx_Zq Bundle.tN "SUPPRESSED_SENTINEL" Bundle.listD (fun q => base ≤ q) s H
  ∧ va_Z "java/lang/String" "COMPACT_STRINGS" "Z" (.int 1) (fun q => base ≤ q) s H ∧ (∀ j, inR (σ.2.2.2.2.2 j)) ∧ σ.2.2.2.2.1 < 2147483648 ∧ va_Zq "jdk/internal/util/Preconditions" "SIOOBE_FORMATTER" "Ljava/util/function/BiFunction;" (fun q => base ≤ q) s H ∧ ∀ i j, i < 4 → j < 4 → i ≠ j → va_Nc (am_exn.getD i "") (am_exn.getD j "") s
end WORLD
section EXL
variable {base : Nat} {sx : Nat → Nat} {dC : Nat → ClassId} {dI : Nat → Nat → Nat}
theorem okW_warm {w : Jvm.Cond} {s U : State} (hW : s.WarmedH U.vm) (hw : okW w = true) (h : w.before #[] s = true) : w.before #[] U = true := by
  simp only [okW, Bool.and_eq_true, Bool.or_eq_true] at hw
  obtain ⟨h1, h2 | h2⟩ := hw
  · exact va_tabs h1 (rfl : (s.setVm U.vm).vm = U.vm) (Cond.before_shiftedFace (State.Shifted.of_warmed hW) w h2 h)
  · exact va_tabs h1 (rfl : (s.setVm U.vm).vm = U.vm) (Cond.holds_shiftedH (args := #[]) (State.Shifted.of_warmed hW) (fun m x hx => by rw [hW.hostNow]; exact hx) w [] h2 h)
theorem okW_use {w : Jvm.Cond} {A : Array Value} {U : State} (hw : okW w = true) (h : w.before #[] U = true) : w.before A U = true := by
  simp only [okW, Bool.and_eq_true] at hw
  exact va_tabs hw.1 rfl h
theorem StrOK.go {k : Nat} {A : Nat → Prop} {s U : State} {H H1 : Heap} (hW : s.WarmedH U.vm) (hq : ∀ a : Nat, a < H.size → ¬ A a → H1[a]? = H[a]?) (h : StrOK sx k A s H) : StrOK sx k A U H1 := by
  obtain ⟨q, ad, h0, h1, h2, h3, h4, h5⟩ := h
  exact ⟨q, ad, h0, h1.warm hW, (va_O.moved hW.alike h2).kept hq, (va_OF.moved hW.alike h3).kept hq, (va_OF.moved hW.alike h4).kept hq, (va_T.moved hW.alike h5).kept hq⟩
theorem AOA_moved {U u : State} (hW : u.WarmedH U.vm) (h : (Cond.arrayOver (.array .int)).before #[] u = true) : (Cond.arrayOver (.array .int)).before #[] U = true := by
  have hvm := hW.alike
  have h0 : ∃ comp c k, u.vm.findClass (FieldType.array .int).toString = some comp ∧ (u.vm.classes.findIdx? fun x => match x.kind with | .array component _ => component == comp | _ => false) = some c ∧ u.vm.classes[c]? = some k ∧ k.kind = .array comp (.array .int) ∧
      u.vm.findClass ("[" ++ (FieldType.array .int).toString) = some c := by
    simp only [Cond.before, Cond.holds, Cond.value, beq_iff_eq] at h
    cases hc : u.vm.findClass (FieldType.array .int).toString with
    | none => simp [hc] at h
    | some comp =>
      simp only [hc, Option.bind_some, Option.bind_eq_some_iff, Option.map_eq_some_iff] at h
      obtain ⟨c, hi, k, hk, hb⟩ := h
      obtain ⟨hlt, hp, -⟩ := Array.findIdx?_eq_some_iff_getElem.mp hi
      have hkk : u.vm.classes[c] = k := (Array.getElem?_eq_some_iff.mp hk).2
      rw [hkk] at hp
      cases hkind : k.kind with
      | array component ty =>
        rw [hkind] at hb hp
        simp at hb hp
        exact ⟨comp, c, k, rfl, hi, hk, by rw [hkind, hp, hb.1], hb.2⟩
      | _ => rw [hkind] at hb; simp at hb
  obtain ⟨comp, c, k, h1, h2, h3, h4, h5⟩ := h0
  obtain ⟨k', hk', he⟩ := hvm.2.2 _ _ h3
  have hi : (U.vm.classes.findIdx? fun (x : Class) => match x.kind with | .array component _ => component == comp | _ => false) = some c := by
    have e1 := va_idx_bare U.vm comp
    have e2 := (va_idx_bare u.vm comp).trans h2
    first | rw [hvm.bare_eq] at e2 | rw [← hvm.bare_eq] at e2
    exact e1.symm.trans e2
  have hkind : k'.kind = .array comp (.array .int) := by rw [he]; exact h4
  have f1 : U.vm.findClass (FieldType.array .int).toString = some comp := by rw [hvm.findClass]; exact h1
  have f2 : U.vm.findClass ("[" ++ (FieldType.array .int).toString) = some c := by rw [hvm.findClass]; exact h5
  unfold Cond.before Cond.holds
  simp only [Cond.value]
  rw [f1, Option.bind_some]
  refine (congrArg (fun o : Option Nat => (o.bind (fun c => (U.vm.classes[c]?).map fun (k : Class) => match k.kind with | .array _ ty => decide (ty = FieldType.array .int) && decide (U.vm.findClass ("[" ++ (FieldType.array .int).toString) = some c) | _ => false) == some true)) hi).trans ?_
  simp [hk', hkind, f2]
theorem Ex.go {σ σ1 : Sg} {s U : State} {H H1 : Heap} (hW : s.WarmedH U.vm) (hq : ∀ a : Nat, a < H.size → ¬ base ≤ a → H1[a]? = H[a]?) (hσ : σ1.2.2.2.2 = σ.2.2.2.2) (h : Ex base sx σ s H) : Ex base sx σ1 U H1 := by
  obtain ⟨h1, h2, h3, h4, h5, h6, h7, h8, h9, h10, h11, h12, h13, h14⟩ := h
  refine ⟨fun w hw hk => okW_warm hW hk (h1 w hw hk), fun ty ht => word_at hW (Or.inr ⟨ty, rfl⟩) (h2 ty ht), va_AO.moved hW.alike h3, AOA_moved hW h4, fun k hk => (h5 k hk).go hW hq, ?_, h7, (vx_Zq.moved hW.alike h8).kept hq, (vx_Zq.moved hW.alike h9).kept hq, (va_Z.moved hW.alike h10).kept hq, by rw [hσ]; exact h11, by rw [hσ]; exact h12, (va_Zq.moved hW.alike h13).kept hq, fun i j hi hj hij => va_Nc.moved hW.alike (h14 i j hi hj hij)⟩
  rw [hσ]
  have h6' := va_X.moved hW.alike h6
  refine h6'.kept (hq _ ?_ (Nat.not_le.mpr h7))
  obtain ⟨scr, e1, -⟩ := h6
  exact (Array.getElem?_eq_some_iff.mp e1).1
end EXL

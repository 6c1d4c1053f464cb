/-! LOCALS -/
section LOC
variable {base : Nat} {sx : Nat → Nat}
def LH (base : Nat) (sx : Nat → Nat) (ls : Array Slot) (al : List AV) : Prop := ls.size = al.length ∧ lv_wf ls ∧ ∀ (i : Nat) (v : AV), al[i]? = some v → v ≠ AU → ls[i]? = some (.val (cv base sx v))
def asc (base : Nat) (sx : Nat → Nat) (al : List AV) : List (Nat × Value) := (al.zipIdx.filter (fun q => decide (q.1 ≠ AU))).map (fun q => (q.2, cv base sx q.1))
theorem mem_asc {al : List AV} {q : Nat × Value} : q ∈ asc base sx al ↔ ∃ v, al[q.1]? = some v ∧ v ≠ AU ∧ q.2 = cv base sx v := by
  unfold asc
  simp only [List.mem_map, List.mem_filter, decide_eq_true_eq]
  constructor
  · rintro ⟨⟨v, i⟩, ⟨h1, h2⟩, rfl⟩
    exact ⟨v, by simpa using List.mem_zipIdx_iff_getElem?.mp h1, h2, rfl⟩
  · rintro ⟨v, h1, h2, h3⟩
    exact ⟨(v, q.1), ⟨List.mem_zipIdx_iff_getElem?.mpr (by simpa using h1), h2⟩, by rw [← h3]⟩
theorem LH.has {ls : Array Slot} {al : List AV} (h : LH base sx ls al) : lv_has ls al.length (asc base sx al) := ⟨h.1, h.2.1, fun q hq => by
  obtain ⟨v, h1, h2, h3⟩ := mem_asc.mp hq
  rw [h3]
  exact h.2.2 q.1 v h1 h2⟩
theorem cat_cv (v : AV) (hv : v ≠ AU) : (cv base sx v).category = if cat1 v then 1 else 2 := by
  rcases v with x | k | x | x | x | k | ⟨⟩
  · rfl
  · cases k <;> rfl
  · rfl
  · rfl
  · rfl
  · rfl
  · exact absurd rfl hv
theorem cat_le (v : AV) : (cv base sx v).category = acat v := by
  rcases v with x | k | x | x | x | k | ⟨⟩
  · rfl
  · cases k <;> rfl
  · rfl
  · rfl
  · rfl
  · rfl
  · rfl
theorem cats_cv (st : List AV) : ((st.map (cv base sx)).map fun v => v.category).sum = acats st := by
  unfold acats
  rw [List.map_map]
  congr 1
  exact List.map_congr_left fun v _ => cat_le v
theorem sto_len (al : List AV) (i : Nat) (w : AV) : (sto al i w).length = al.length := by cases i <;> simp [sto]
theorem sto_self {al : List AV} {i : Nat} {w : AV} (hi : i < al.length) : (sto al i w)[i]? = some w := by cases i <;> simp [sto, hi]
theorem sto_ne {al : List AV} {i j : Nat} {w : AV} (h : j ≠ i) : (sto al i w)[j]? = if j + 1 = i then (al[j]?).map k2 else al[j]? := by
  cases i with
  | zero => simp [sto, Ne.symm h]
  | succ i =>
    by_cases e : j = i
    · subst e; simp [sto]
    · simp [sto, Ne.symm h, e, Ne.symm e]
theorem LH.of1 {ls : Array Slot} {al : List AV} {i : Nat} {w : AV} (hi : i < al.length) (h : lv_has ls al.length ((i, cv base sx w) :: (asc base sx al).filter (fun q => !(q.1 == i) && !(q.1 + 1 == i && q.2.category == 2)))) : LH base sx ls (sto al i w) := by
  refine ⟨by rw [sto_len]; exact h.1, h.2.1, fun j v hj hv => ?_⟩
  by_cases e : j = i
  · subst e
    rw [sto_self hi] at hj
    cases hj
    exact h.2.2 _ List.mem_cons_self
  · rw [sto_ne e] at hj
    refine h.2.2 (j, cv base sx v) (List.mem_cons_of_mem _ (List.mem_filter.mpr ⟨?_, ?_⟩))
    · split at hj
      · cases ha : al[j]? with
        | none => rw [ha] at hj; cases hj
        | some u =>
          rw [ha] at hj
          have e2 : k2 u = v := Option.some.inj hj
          unfold k2 at e2
          split at e2
          · subst e2; exact mem_asc.mpr ⟨u, ha, hv, rfl⟩
          · exact absurd e2.symm hv
      · exact mem_asc.mpr ⟨v, hj, hv, rfl⟩
    · simp only [Bool.and_eq_true, Bool.not_eq_true', beq_eq_false_iff_ne, ne_eq, e, not_false_eq_true, true_and, Bool.and_eq_false_iff]
      by_cases e3 : j + 1 = i
      · right
        rw [if_pos e3] at hj
        cases ha : al[j]? with
        | none => rw [ha] at hj; cases hj
        | some u =>
          rw [ha] at hj
          have e2 : k2 u = v := Option.some.inj hj
          unfold k2 at e2
          split at e2
          · next hc => subst e2; rw [cat_cv _ hv, if_pos hc]; decide
          · exact absurd e2.symm hv
      · left; exact e3
theorem LH.of2 {ls : Array Slot} {al : List AV} {i : Nat} {w : AV} (hi : i + 1 < al.length) (h : lv_has ls al.length ((i, cv base sx w) :: (asc base sx al).filter (fun q => !(q.1 == i) && (!(q.1 == i + 1) && !(q.1 + 1 == i && q.2.category == 2))))) : LH base sx ls (sto2 al i w) := by
  have h0 : i < al.length := by omega
  refine ⟨by simp [sto2, sto_len, h.1], h.2.1, fun j v hj hv => ?_⟩
  unfold sto2 at hj
  by_cases e1 : j = i + 1
  · subst e1
    rw [List.getElem?_set_self (by rw [sto_len]; exact hi)] at hj
    cases hj
    exact absurd rfl hv
  · rw [List.getElem?_set_ne (Ne.symm e1)] at hj
    by_cases e : j = i
    · subst e
      rw [sto_self h0] at hj
      cases hj
      exact h.2.2 _ List.mem_cons_self
    · rw [sto_ne e] at hj
      refine h.2.2 (j, cv base sx v) (List.mem_cons_of_mem _ (List.mem_filter.mpr ⟨?_, ?_⟩))
      · split at hj
        · cases ha : al[j]? with
          | none => rw [ha] at hj; cases hj
          | some u =>
            rw [ha] at hj
            have e2 : k2 u = v := Option.some.inj hj
            unfold k2 at e2
            split at e2
            · subst e2; exact mem_asc.mpr ⟨u, ha, hv, rfl⟩
            · exact absurd e2.symm hv
        · exact mem_asc.mpr ⟨v, hj, hv, rfl⟩
      · simp only [Bool.and_eq_true, Bool.not_eq_true', beq_eq_false_iff_ne, ne_eq, e, e1, not_false_eq_true, true_and, Bool.and_eq_false_iff]
        by_cases e3 : j + 1 = i
        · right
          rw [if_pos e3] at hj
          cases ha : al[j]? with
          | none => rw [ha] at hj; cases hj
          | some u =>
            rw [ha] at hj
            have e2 : k2 u = v := Option.some.inj hj
            unfold k2 at e2
            split at e2
            · next hc => subst e2; rw [cat_cv _ hv, if_pos hc]; decide
            · exact absurd e2.symm hv
        · left; exact e3
theorem lg_sl_map (as : List AV) (hc : ∀ v ∈ as, cat1 v = true) : lg_sl (as.map (cv base sx)) = (as.map (cv base sx)).map Slot.val := by
  induction as with
  | nil => rfl
  | cons v l ih =>
    have h1 : (cv base sx v).category = 1 := by rw [cat_le, acat, if_pos (hc v List.mem_cons_self)]
    have h2 := ih fun u hu => hc u (List.mem_cons_of_mem _ hu)
    unfold lg_sl at h2 ⊢
    rw [List.map_cons, List.flatMap_cons, h2, if_neg (by omega)]
    rfl
theorem LH.entry {as : List AV} {n : Nat} (hc : ∀ v ∈ as, cat1 v = true) (hn : as.length ≤ n) : LH base sx ((lg_sl (as.map (cv base sx)) ++ List.replicate (n - (lg_sl (as.map (cv base sx))).length) Slot.unset).toArray) (as ++ List.replicate (n - as.length) AU) := by
  rw [lg_sl_map as hc]
  have hat : ∀ (i : Nat) (x : Slot), ((((as.map (cv base sx)).map Slot.val ++ List.replicate (n - ((as.map (cv base sx)).map Slot.val).length) Slot.unset).toArray)[i]?) = some x → (∃ v ∈ as, as[i]? = some v ∧ x = .val (cv base sx v)) ∨ x = .unset := by
    intro i x hx
    simp only [List.getElem?_toArray] at hx
    by_cases hi : i < as.length
    · rw [List.getElem?_append_left (by simpa using hi)] at hx
      simp only [List.map_map, List.getElem?_map, Option.map_eq_some_iff] at hx
      obtain ⟨v, hv, rfl⟩ := hx
      exact Or.inl ⟨v, List.mem_of_getElem? hv, hv, rfl⟩
    · rw [List.getElem?_append_right (by simpa using hi)] at hx
      exact Or.inr (List.eq_of_mem_replicate (List.mem_of_getElem? hx))
  refine ⟨by simp, ⟨fun i v hv h2 => ?_, fun i hi => ?_⟩, fun i v hv hne => ?_⟩
  · rcases hat i _ hv with ⟨u, hu, -, e⟩ | e
    · cases e
      rw [cat_le, acat, if_pos (hc u hu)] at h2
      omega
    · cases e
  · rcases hat i _ hi with ⟨u, hu, -, e⟩ | e <;> cases e
  · by_cases hi : i < as.length
    · rw [List.getElem?_append_left hi] at hv
      simp only [List.getElem?_toArray]
      rw [List.getElem?_append_left (by simpa using hi)]
      simp [hv]
    · rw [List.getElem?_append_right (by omega)] at hv
      exact absurd (List.eq_of_mem_replicate (List.mem_of_getElem? hv)) hne
end LOC

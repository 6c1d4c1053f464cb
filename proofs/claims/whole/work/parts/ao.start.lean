/-! what the small machine asks of the state at the law's entry -/
section A
def fl1 : List Cond := flatC (Jvm.Cond.and given_1 narrow_1)
def stW (k : Nat) (q : String × Nat × String) : List Cond :=
  [Cond.exactly (.string q.1 q.2.1) "java/lang/String", Cond.eq (.field (.string q.1 q.2.1) "java/lang/String" "coder" "B") (.int 0), Cond.arrayOf (.field (.string q.1 q.2.1) "java/lang/String" "value" "[B") .byte, Cond.eq (.length (.field (.string q.1 q.2.1) "java/lang/String" "value" "[B")) (.int (Int32.ofNat (text (k + 1)).length))]
  ++ (List.range (text (k + 1)).length).map (fun j => Cond.eq (.elem (.field (.string q.1 q.2.1) "java/lang/String" "value" "[B") (.int (Int32.ofNat j))) (.int (Int32.ofInt ((text (k + 1)).getD j 0))))
def stP : List Nat := [543, 552, 562, 572, 583, 594, 609, 616, 623, 496, 505, 514, 521, 630, 640, 527, 535, 603, 650, 658, 666, 675, 75, 168, 305, 443, 684, 710, 741, 775, 862, 872, 883, 894, 906, 918, 928, 936, 944, 844, 853, 953, 809, 819, 829, 837, 960, 971, 982, 991, 1001]
def stCk (k : Nat) : Bool := match am_strs[k]? with
  | none => false
  | some q => decide ((fl1.drop (stP.getD k 0)).take (4 + (text (k + 1)).length) = stW k q) && (decide (Cond.stringRef q.1 q.2.1 q.2.2 ∈ lw_tbl) && decide ((text (k + 1)).length < 2 ^ 31))
theorem st_0 : ((List.range 51).take 5).all stCk = true := by decide +kernel
theorem st_1 : (((List.range 51).drop 5).take 5).all stCk = true := by decide +kernel
theorem st_2 : ((((List.range 51).drop 5).drop 5).take 5).all stCk = true := by decide +kernel
theorem st_3 : (((((List.range 51).drop 5).drop 5).drop 5).take 5).all stCk = true := by decide +kernel
theorem st_4 : ((((((List.range 51).drop 5).drop 5).drop 5).drop 5).take 5).all stCk = true := by decide +kernel
theorem st_5 : (((((((List.range 51).drop 5).drop 5).drop 5).drop 5).drop 5).take 5).all stCk = true := by decide +kernel
theorem st_6 : ((((((((List.range 51).drop 5).drop 5).drop 5).drop 5).drop 5).drop 5).take 5).all stCk = true := by decide +kernel
theorem st_7 : (((((((((List.range 51).drop 5).drop 5).drop 5).drop 5).drop 5).drop 5).drop 5).take 5).all stCk = true := by decide +kernel
theorem st_8 : ((((((((((List.range 51).drop 5).drop 5).drop 5).drop 5).drop 5).drop 5).drop 5).drop 5).take 5).all stCk = true := by decide +kernel
theorem st_9 : (((((((((((List.range 51).drop 5).drop 5).drop 5).drop 5).drop 5).drop 5).drop 5).drop 5).drop 5).take 5).all stCk = true := by decide +kernel
theorem st_10 : (((((((((((List.range 51).drop 5).drop 5).drop 5).drop 5).drop 5).drop 5).drop 5).drop 5).drop 5).drop 5).all stCk = true := by decide +kernel
theorem st_all : (List.range 51).all stCk = true := all_pc 5 st_0 (all_pc 5 st_1 (all_pc 5 st_2 (all_pc 5 st_3 (all_pc 5 st_4 (all_pc 5 st_5 (all_pc 5 st_6 (all_pc 5 st_7 (all_pc 5 st_8 (all_pc 5 st_9 (st_10))))))))))
theorem fx_1 : Cond.eq (.static "java/lang/String" "COMPACT_STRINGS" "Z") (.int 1) ∈ fl1 ∧ Cond.isRef (.static "jdk/internal/util/Preconditions" "SIOOBE_FORMATTER" "Ljava/util/function/BiFunction;") ∈ fl1 ∧ Cond.isRef (.static Bundle.tN "UNASSIGNED_STACK" Bundle.steD) ∈ fl1 ∧ Cond.isRef (.static Bundle.tN "SUPPRESSED_SENTINEL" Bundle.listD) ∈ fl1 := by decide +kernel
theorem fx_2 : Cond.laysStatic "java/lang/String" "COMPACT_STRINGS" "Z" ∈ lw_tbl ∧ Cond.laysStatic "jdk/internal/util/Preconditions" "SIOOBE_FORMATTER" "Ljava/util/function/BiFunction;" ∈ lw_tbl ∧ Cond.laysStatic Bundle.tN "UNASSIGNED_STACK" Bundle.steD ∈ lw_tbl ∧ Cond.laysStatic Bundle.tN "SUPPRESSED_SENTINEL" Bundle.listD ∈ lw_tbl := by decide +kernel
theorem fx_3 : Cond.initialized "java/lang/String" ∈ lw_tbl ∧ Cond.initialized "jdk/internal/util/Preconditions" ∈ lw_tbl ∧ Cond.initialized Bundle.tN ∈ lw_tbl := by decide +kernel
theorem fx_4 : Cond.arrayClass .int ∈ lw_tbl ∧ Cond.arrayClass .boolean ∈ lw_tbl ∧ Cond.arrayClass .long ∈ lw_tbl ∧ Cond.arrayOver (.object RX9) ∈ lw_tbl ∧ Cond.arrayOver (.array .int) ∈ lw_tbl := by decide +kernel
theorem fx_5 : ((List.range 4).all fun i => (List.range 4).all fun j => decide (i = j) || decide (Cond.not (.castable (am_exn.getD i "") (am_exn.getD j "")) ∈ fl1)) = true := by decide +kernel
def sxOf (b : Nat) (sa : Nat → Nat) : Nat → Nat
  | 0 => b
  | k + 1 => sa k
theorem ex_start {s : State} {b L : Nat} {xs : Nat → Int32} (hts : ∀ w ∈ lw_tbl, w.before #[Value.ref b] s = true) (hgv : (Jvm.Cond.and given_1 narrow_1).before #[Value.ref b] s = true) (hX : va_X b L xs s s.heap) (hb : b < s.heap.size) (hL : L ≤ 3072) : ∃ sx : Nat → Nat, sx 0 = b ∧ Ex s.heap.size sx ([], hz0, 0, 0, L, fun j => (xs j).toInt) s s.heap := by
  have hs : ∀ c ∈ fl1, c.before #[Value.ref b] s = true := flat_of_before _ hgv
  have hA : ∀ a : Nat, a < s.heap.size → ¬ s.heap.size ≤ a := fun a h => Nat.not_le.mpr h
  have ht : ∀ w ∈ lw_tbl, w.onTables = true → w.before #[] s = true := fun w hw ho => va_tabs ho rfl (hts w hw)
  have hst : ∀ k : Nat, ∃ a : Nat, k < am_strs.length → ∃ (q : String × Nat × String) (ad : Nat), am_strs[k]? = some q ∧ vk_R q.1 q.2.1 q.2.2 a s ∧ va_O "java/lang/String" a (fun q => s.heap.size ≤ q) s s.heap ∧ va_OF "java/lang/String" "coder" "B" (.int 0) a (fun q => s.heap.size ≤ q) s s.heap
      ∧ va_OF "java/lang/String" "value" "[B" (.ref ad) a (fun q => s.heap.size ≤ q) s s.heap ∧ va_T .byte ad (text (k + 1)).length (fun j => .int (Int32.ofInt ((text (k + 1)).getD j 0))) (fun q => s.heap.size ≤ q) s s.heap := by
    intro k
    by_cases hk : k < am_strs.length
    · have h9 := List.all_eq_true.mp st_all k (List.mem_range.mpr (Nat.lt_of_lt_of_le hk (show am_strs.length ≤ 51 by decide +kernel)))
      unfold stCk at h9
      split at h9
      · cases h9
      · next q hq =>
        simp only [Bool.and_eq_true, decide_eq_true_eq] at h9
        obtain ⟨h1, h2, h3⟩ := h9
        have hw : ∀ w ∈ stW k q, w.before #[Value.ref b] s = true := fun w hw => hs w (List.mem_of_mem_drop (List.mem_of_mem_take (by rw [h1]; exact hw)))
        have w1 := hw _ (List.mem_append_left _ (List.mem_cons_self))
        have w2 := hw _ (List.mem_append_left _ (List.mem_cons_of_mem _ (List.mem_cons_self)))
        have w3 := hw _ (List.mem_append_left _ (List.mem_cons_of_mem _ (List.mem_cons_of_mem _ (List.mem_cons_self))))
        have w4 := hw _ (List.mem_append_left _ (List.mem_cons_of_mem _ (List.mem_cons_of_mem _ (List.mem_cons_of_mem _ (List.mem_cons_self)))))
        obtain ⟨a, c, cA, kA, q1, q2, q3, q4, q5, q6, -⟩ := Cond.exactly_spec (args := #[Value.ref b]) (first := s) (o := none) (s := s) (idx := []) (t := .string q.1 q.2.1) (cls := "java/lang/String") w1
        obtain ⟨t, htt, hT⟩ := va_Tof (f := fun j => .int (Int32.ofInt ((text (k + 1)).getD j 0))) (A := fun q => s.heap.size ≤ q) h3 w3 (va_eqt w4) (fun j hj => va_eqt (hw _ (List.mem_append_right _ (List.mem_map.mpr ⟨j, List.mem_range.mpr hj, rfl⟩)))) hA
        exact ⟨a, fun _ => ⟨q, t, hq, vk_R.of (hts _ h2) q1, ⟨cA, q3, q5, by rw [q6]; exact q2, hA a (Array.getElem?_eq_some_iff.mp q3).1⟩, vk_OFof q1 (va_eqt w2) hA, vk_OFof q1 htt hA, hT⟩⟩
    · exact ⟨0, fun h => absurd h hk⟩
  obtain ⟨sa, hsa⟩ := Classical.axiomOfChoice hst
  refine ⟨sxOf b sa, rfl, fun w hw hk => ?_, fun ty hty => ?_, hts _ fx_4.2.2.2.1, hts _ fx_4.2.2.2.2, fun k hk => hsa k hk, ?_, hb, vx_Zqof (hts _ fx_2.2.2.1) (hts _ fx_3.2.2) (hs _ fx_1.2.2.1) hA, vx_Zqof (hts _ fx_2.2.2.2) (hts _ fx_3.2.2) (hs _ fx_1.2.2.2) hA, va_Zof (hts _ fx_2.1) (hts _ fx_3.1) (va_eqt (hs _ fx_1.1)) hA, fun j => ?_, ?_, va_Zqof (hts _ fx_2.2.1) (hts _ fx_3.2.1) (hs _ fx_1.2.1) hA, fun i j hi hj hij => ?_⟩
  · simp only [okW, Bool.and_eq_true] at hk
    exact ht w hw hk.1
  · rcases hty with rfl | rfl | rfl
    · exact hts _ fx_4.1
    · exact hts _ fx_4.2.1
    · exact hts _ fx_4.2.2.1
  · have e : (fun j => Int32.ofInt (xs j).toInt) = xs := funext fun j => Int32.ofInt_toInt (xs j)
    show va_X b L (fun j => Int32.ofInt (xs j).toInt) s s.heap
    rw [e]
    exact hX
  · have h1 := Int32.le_toInt (xs j)
    have h2 := Int32.toInt_lt (xs j)
    show -2147483648 ≤ (xs j).toInt ∧ (xs j).toInt ≤ 2147483647
    omega
  · show L < 2147483648
    omega
  · have h9 := List.all_eq_true.mp (List.all_eq_true.mp fx_5 i (List.mem_range.mpr hi)) j (List.mem_range.mpr hj)
    simp only [Bool.or_eq_true, decide_eq_true_eq] at h9
    exact va_Nc.of (hs _ (h9.resolve_left hij))
theorem kn_all : (List.range 13).all (fun i => match vwCl[i]? with | some (C, _, N) => decide (Cond.instantiable C N ∈ lw_tbl) | none => true) = true := by decide +kernel
/-- the classes -/
theorem kn_start {s : State} {b : Nat} (hts : ∀ w ∈ lw_tbl, w.before #[Value.ref b] s = true) : ∃ (dC : Nat → ClassId) (dI : Nat → Nat → Nat), va_K (dC, dI) vwCl [] s := by
  have h0 : ∀ i : Nat, ∃ z : ClassId × (Nat → Nat), ∀ q : vw_C, vwCl[i]? = some q → u_Kn s q.1 q.2.1 q.2.2 z.1 z.2 := by
    intro i
    cases hv : vwCl[i]? with
    | none => exact ⟨(0, fun _ => 0), fun q h => nomatch h⟩
    | some q =>
      obtain ⟨C, T, N⟩ := q
      have hi : i < 13 := (List.getElem?_eq_some_iff.mp hv).1
      have h9 := List.all_eq_true.mp kn_all i (List.mem_range.mpr hi)
      rw [hv] at h9
      have h8 : Cond.instantiable C N ∈ lw_tbl := of_decide_eq_true h9
      obtain ⟨cC, iS, hK⟩ := u_known (n := N) hts (fun w hw => ((uW i C T N hv).1 w hw).1) (hts _ h8)
      exact ⟨(cC, iS), fun q h => by cases h; exact hK⟩
  obtain ⟨z, hz⟩ := Classical.axiomOfChoice h0
  exact ⟨fun i => (z i).1, fun i => (z i).2, fun i q hq => hz i q hq, fun k q h => by simp at h⟩
end A

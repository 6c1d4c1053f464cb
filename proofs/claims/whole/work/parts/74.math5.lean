/-! what the numbers of a machine keep to -/
section A
variable {w : Nat → Int}
def DY (w : Nat → Int) (N : Int) : Prop := (0 ≤ w 18 ∧ w 18 ≤ 20) ∧ (∀ y : Nat, (12 ≤ y ∧ y ≤ 17) ∨ (59 ≤ y ∧ y ≤ 92) → 0 ≤ w y ∧ w y ≤ N) ∧ (w 5 = 0 ∨ w 5 < w 0) ∧ ∀ k : Nat, (k : Int) < w 18 → (0 ≤ w (19 + 2 * k) ∧ w (19 + 2 * k) < w 1) ∧ (0 ≤ w (20 + 2 * k) ∧ w (20 + 2 * k) < w 3)
/-- the machine, its state and its counts, of at most N events -/
def WFd (w : Nat → Int) (N : Int) : Prop := WFm w ∧ WFc w ∧ DY w N
theorem WFm.ag {u : Nat → Int} (hW : WFm w) (g : ∀ y : Nat, y < 5 ∨ (9 ≤ y ∧ y ≤ 11) ∨ 93 ≤ y → u y = w y) : WFm u := by
  obtain ⟨v, wi, wn, wt, wv⟩ := hW
  have e0 := g 0 (by omega)
  have e1 := g 1 (by omega)
  have e2 := g 2 (by omega)
  have e3 := g 3 (by omega)
  have e4 := g 4 (by omega)
  refine ⟨?_, ?_, ?_, ?_, ?_⟩
  · unfold WFb
    rw [e0, e1, e2, e3, e4]
    exact v
  · intro i h1 h2
    rw [g _ (by omega)]
    exact wi i h1 h2
  · unfold WFn
    rw [e0, e1, e2]
    exact ⟨fun i h1 h2 => by rw [g _ (by omega)]; exact wn.1 i h1 h2, fun i h1 h2 => by rw [g _ (by omega)]; exact wn.2.1 i h1 h2, fun i h1 h2 => by rw [g _ (by omega)]; exact wn.2.2 i h1 h2⟩
  · intro t h1 h2
    exact (wt t h1 (by omega)).ex (by omega) (by omega) (by omega) (fun j hj _ => g _ (by omega))
  · intro i h1 h2
    exact (wv i h1 (by omega)).ex (by omega) (by omega) (fun j hj _ => g _ (by omega))
theorem WFm.ft (hW : WFm w) : WFt w := by
  obtain ⟨v, -, -, wt, -⟩ := hW
  refine ⟨v.2.2.2.1, v.2.2.2.2, fun t h1 h2 => ?_⟩
  obtain ⟨-, -, q2, -, q4⟩ := wt t h1 h2
  have := v.1
  exact ⟨by omega, fun z => (q4.resolve_left z).2.2⟩
theorem ac0W_o {nx t : Int} {y : Nat} (h1 : 0 ≤ nx ∧ nx ≤ 9999) (h2 : 0 ≤ t ∧ t < 24) (hy : ¬ (5 ≤ y ∧ y ≤ 8) ∧ y ≠ 12 ∧ ¬ (59 ≤ y ∧ y ≤ 92)) : ac0W w nx t y = w y := by
  unfold ac0W udI
  rw [if_neg (by omega), if_neg (by omega), if_neg (by omega), if_neg (by omega), if_neg (by omega), if_neg (by omega), if_neg (by omega)]
theorem trcN_r (h8 : 0 ≤ w 18 ∧ w 18 ≤ 20) : 1 ≤ trcN w ∧ trcN w ≤ 20 ∧ trcN w ≤ w 18 + 1 := by
  unfold trcN
  split <;> omega
theorem trcW_o {e t : Int} {y : Nat} (h8 : 0 ≤ w 18 ∧ w 18 ≤ 20) (hy : y < 18 ∨ 59 ≤ y) : trcW w e t y = w y := by
  have := trcN_r h8
  unfold trcW shW udI
  rw [if_neg (by omega), if_neg (by omega)]
  dsimp only
  rw [if_neg (by omega), if_neg (by omega)]
theorem trcW_18 {e t : Int} (h8 : 0 ≤ w 18 ∧ w 18 ≤ 20) : trcW w e t 18 = trcN w := by
  have := trcN_r h8
  unfold trcW shW udI
  rw [if_neg (by omega), if_neg (by omega)]
  dsimp only
  rw [if_neg (by omega), if_pos rfl]
theorem trcW_e {e t : Int} : trcW w e t 19 = e ∧ trcW w e t 20 = t := by
  unfold trcW udI
  exact ⟨by rw [if_neg (by omega), if_pos rfl], if_pos rfl⟩
theorem trcW_k {e t : Int} {k : Nat} (h8 : 0 ≤ w 18 ∧ w 18 ≤ 20) (hk : (k : Int) + 1 < trcN w) : trcW w e t (19 + 2 * (k + 1)) = w (19 + 2 * k) ∧ trcW w e t (20 + 2 * (k + 1)) = w (20 + 2 * k) := by
  have := trcN_r h8
  unfold trcW shW udI
  constructor
  · rw [if_neg (by omega), if_neg (by omega)]
    dsimp only
    rw [if_pos (by omega), if_neg (by omega)]
    exact congrArg w (by omega)
  · rw [if_neg (by omega), if_neg (by omega)]
    dsimp only
    rw [if_pos (by omega), if_neg (by omega)]
    exact congrArg w (by omega)
theorem nx0_st {c t : Int} : nx0 w c t / 1000 = tr w t 2 := by
  unfold nx0
  omega
theorem withV_st {c i v : Int} (h2 : 0 ≤ v ∧ v ≤ 9) : withV c i v / 1000 = c / 1000 := by
  unfold withV vIn wt
  split
  · omega
  · split <;> omega
theorem vdt_st {c e : Int} : (vdt w c e).1 = 0 → (vdt w c e).2.2 / 1000 = tr w (vdt w c e).2.1 2 := by
  unfold vdt
  split
  · exact fun z => absurd z (show ¬ (1 : Int) = 0 by decide)
  · split
    · exact fun z => absurd z (show ¬ (2 : Int) = 0 by decide)
    · split
      · exact fun _ => nx0_st
      · split
        · next q => exact fun _ => (withV_st q).trans nx0_st
        · exact fun z => absurd z (show ¬ (3 : Int) = 0 by decide)
theorem wr_s {x N : Int} (h : 0 ≤ x ∧ x ≤ N) (hN : N < 2000000000) : 0 ≤ wr (x + 1) ∧ wr (x + 1) ≤ N + 1 := by
  unfold wr
  omega
theorem g2sW_o {y : Nat} (hy : ¬ (5 ≤ y ∧ y ≤ 8) ∧ y ≠ 18) : g2sW w y = w y := by
  unfold g2sW udI
  rw [if_neg (by omega), if_neg (by omega), if_neg (by omega), if_neg (by omega), if_neg (by omega)]
theorem g2sW_d {N : Int} (q : WFd w N) : WFd (g2sW w) N := by
  obtain ⟨hW, hc, d1, d2, d3, d4⟩ := q
  have e18 : g2sW w 18 = 0 := rfl
  have e5 : g2sW w 5 = 0 := rfl
  have i0 := hW.2.1 0 (by decide) (by decide)
  have i1 := hW.2.1 1 (by decide) (by decide)
  have i2 := hW.2.1 2 (by decide) (by decide)
  refine ⟨hW.ag (fun y hy => g2sW_o (by omega)), ⟨by rw [e5]; decide, i0, i1, i2⟩, by rw [e18]; decide, fun y hy => ?_, Or.inl e5, fun k hk => ?_⟩
  · rw [g2sW_o (by omega)]
    exact d2 y hy
  · rw [e18] at hk
    omega
theorem clrW_o {y : Nat} (h5 : 0 ≤ w 5 ∧ w 5 ≤ 9) (hy : ¬ (12 ≤ y ∧ y ≤ 18) ∧ ¬ (59 ≤ y ∧ y ≤ 92)) : clrW w y = w y := by
  unfold clrW udI zr
  rw [if_neg (by omega), if_neg (by omega), if_neg (by omega), if_neg (by omega)]
theorem clrW_d {N : Int} (h1 : 1 ≤ N) (q : WFd w N) : WFd (clrW w) N := by
  obtain ⟨hW, hc, d1, d2, d3, d4⟩ := q
  have o : ∀ y : Nat, (¬ (12 ≤ y ∧ y ≤ 18) ∧ ¬ (59 ≤ y ∧ y ≤ 92)) → clrW w y = w y := fun y hy => clrW_o hc.1 hy
  have e18 : clrW w 18 = 0 := by
    have := hc.1
    unfold clrW udI
    rw [if_neg (by omega), if_pos rfl]
  refine ⟨hW.ag (fun y hy => o y (by omega)), ?_, by rw [e18]; decide, fun y hy => ?_, ?_, fun k hk => ?_⟩
  · unfold WFc
    rw [o 5 (by omega), o 6 (by omega), o 7 (by omega), o 8 (by omega)]
    exact hc
  · unfold clrW udI zr
    split
    · omega
    · rw [if_neg (by omega)]
      split <;> omega
  · rw [o 5 (by omega), o 0 (by omega)]
    exact d3
  · rw [e18] at hk
    omega
theorem set_d {N i v : Int} (hi : 0 ≤ i ∧ i ≤ 2) (hv : 0 ≤ v ∧ v ≤ 9) (q : WFd w N) : WFd (udI w (6 + i).toNat v) N := by
  obtain ⟨hW, hc, d1, d2, d3, d4⟩ := q
  have o : ∀ y : Nat, ¬ (6 ≤ y ∧ y ≤ 8) → udI w (6 + i).toNat v y = w y := fun y hy => if_neg (by omega)
  have o2 : ∀ y : Nat, (0 ≤ w y ∧ w y ≤ 9) → 0 ≤ udI w (6 + i).toNat v y ∧ udI w (6 + i).toNat v y ≤ 9 := fun y hy => by
    unfold udI
    split <;> omega
  obtain ⟨c5, c6, c7, c8⟩ := hc
  refine ⟨hW.ag (fun y hy => o y (by omega)), ⟨o2 5 c5, o2 6 c6, o2 7 c7, o2 8 c8⟩, by rw [o 18 (by omega)]; exact d1, fun y hy => by rw [o y (by omega)]; exact d2 y hy, by rw [o 5 (by omega), o 0 (by omega)]; exact d3, fun k hk => ?_⟩
  rw [o 18 (by omega)] at hk
  rw [o 1 (by omega), o 3 (by omega), o (19 + 2 * k) (by omega), o (20 + 2 * k) (by omega)]
  exact d4 k hk
theorem WFd.up {N M : Int} (q : WFd w N) (h : N ≤ M) : WFd w M := ⟨q.1, q.2.1, q.2.2.1, fun y hy => ⟨(q.2.2.2.1 y hy).1, Int.le_trans (q.2.2.2.1 y hy).2 h⟩, q.2.2.2.2⟩
theorem rejW_d {N v : Int} (hN : N < 2000000000) (hv : 0 ≤ v ∧ v ≤ 4) (q : WFd w N) : WFd (rejW w v) (N + 1) := by
  obtain ⟨hW, hc, d1, d2, d3, d4⟩ := q
  have o : ∀ y : Nat, ¬ (12 ≤ y ∧ y ≤ 17) → rejW w v y = w y := fun y hy => by
    unfold rejW udI
    rw [if_neg (by omega), if_neg (by omega)]
  refine ⟨hW.ag (fun y hy => o y (by omega)), ?_, by rw [o 18 (by omega)]; exact d1, fun y hy => ?_, by rw [o 5 (by omega), o 0 (by omega)]; exact d3, fun k hk => ?_⟩
  · unfold WFc
    rw [o 5 (by omega), o 6 (by omega), o 7 (by omega), o 8 (by omega)]
    exact hc
  · have a := wr_s (d2 17 (by omega)) hN
    have b := wr_s (d2 (12 + v).toNat (by omega)) hN
    have c := d2 y hy
    unfold rejW udI
    split
    · exact a
    · split
      · exact b
      · omega
  · rw [o 18 (by omega)] at hk
    rw [o 1 (by omega), o 3 (by omega), o (19 + 2 * k) (by omega), o (20 + 2 * k) (by omega)]
    exact d4 k hk
theorem ac0W_c {nx t : Int} (h1 : 0 ≤ nx ∧ nx ≤ 9999) (h2 : 0 ≤ t ∧ t < 24) : ac0W w nx t 5 = nx / 1000 ∧ ac0W w nx t 6 = vIn nx 0 ∧ ac0W w nx t 7 = vIn nx 1 ∧ ac0W w nx t 8 = vIn nx 2 := by
  unfold ac0W udI
  refine ⟨?_, ?_, ?_, ?_⟩
  · rw [if_neg (by omega), if_neg (by omega), if_neg (by omega), if_neg (by omega), if_neg (by omega), if_neg (by omega), if_pos rfl]
  · rw [if_neg (by omega), if_neg (by omega), if_neg (by omega), if_neg (by omega), if_neg (by omega), if_pos rfl]
  · rw [if_neg (by omega), if_neg (by omega), if_neg (by omega), if_neg (by omega), if_pos rfl]
  · rw [if_neg (by omega), if_neg (by omega), if_neg (by omega), if_pos rfl]
theorem ac0W_n {nx t N : Int} (h1 : 0 ≤ nx ∧ nx ≤ 9999) (h2 : 0 ≤ t ∧ t < 24) (hN : N < 2000000000) (d2 : ∀ y : Nat, (12 ≤ y ∧ y ≤ 17) ∨ (59 ≤ y ∧ y ≤ 92) → 0 ≤ w y ∧ w y ≤ N) {y : Nat} (hy : (12 ≤ y ∧ y ≤ 17) ∨ (59 ≤ y ∧ y ≤ 92)) : 0 ≤ ac0W w nx t y ∧ ac0W w nx t y ≤ N + 1 := by
  have a := wr_s (d2 12 (by omega)) hN
  have b := wr_s (d2 (69 + t).toNat (by omega)) hN
  have c := wr_s (d2 (59 + nx / 1000).toNat (by omega)) hN
  have z := d2 y hy
  unfold ac0W udI
  split
  · exact c
  · split
    · exact b
    · split
      · exact a
      · rw [if_neg (by omega), if_neg (by omega), if_neg (by omega), if_neg (by omega)]
        omega
theorem firW_d {N e : Int} (hN : N < 2000000000) (q : WFd w N) : WFd (firW w e) (N + 1) := by
  have q0 := q
  obtain ⟨hW, hc, d1, d2, d3, d4⟩ := q
  have h3 := hW.1.2.2.2.1
  obtain ⟨v1, v2⟩ := vdt_v (w := w) (c := hereW w) (e := e) h3.1
  have hr := vdt_r (e := e) hW.ft (hereW_r hc)
  unfold firW
  by_cases hv : (vdt w (hereW w) e).1 = 0
  · rw [if_pos hv]
    obtain ⟨t0, t1, -, t3⟩ := v2 hv
    have hs := vdt_st hv
    have ht := hW.2.2.2.1 _ t0 t1
    generalize (vdt w (hereW w) e).2.2 = nx at hr hs ⊢
    generalize (vdt w (hereW w) e).2.1 = t at t0 t1 t3 hs ht ⊢
    have h24 : 0 ≤ t ∧ t < 24 := ⟨t0, by omega⟩
    obtain ⟨a5, a6, a7, a8⟩ := ac0W_c (w := w) hr h24
    have e18 : ac0W w nx t 18 = w 18 := ac0W_o hr h24 (by omega)
    have h8 : 0 ≤ ac0W w nx t 18 ∧ ac0W w nx t 18 ≤ 20 := by rw [e18]; exact d1
    have hn := trcN_r h8
    have o : ∀ y : Nat, (y < 18 ∨ 59 ≤ y) → trcW (ac0W w nx t) e t y = ac0W w nx t y := fun y hy => trcW_o h8 hy
    have o2 : ∀ y : Nat, y < 5 ∨ (9 ≤ y ∧ y ≤ 11) ∨ 93 ≤ y → trcW (ac0W w nx t) e t y = w y := fun y hy => (o y (by omega)).trans (ac0W_o hr h24 (by omega))
    have hte : 0 ≤ e ∧ e < w 1 := by rw [← t3]; exact ht.2.1
    have hst : 0 ≤ nx / 1000 ∧ nx / 1000 < w 0 := by rw [hs]; exact ht.2.2.1
    refine ⟨hW.ag o2, ?_, by rw [trcW_18 h8]; omega, fun y hy => by rw [o y (by omega)]; exact ac0W_n hr h24 hN d2 hy, ?_, fun k hk => ?_⟩
    · unfold WFc
      rw [o 5 (by omega), o 6 (by omega), o 7 (by omega), o 8 (by omega), a5, a6, a7, a8]
      exact ⟨by omega, vIn_r _ _, vIn_r _ _, vIn_r _ _⟩
    · rw [o 5 (by omega), o2 0 (by omega), a5]
      exact Or.inr hst.2
    · rw [trcW_18 h8] at hk
      rw [o2 1 (by omega), o2 3 (by omega)]
      cases k with
      | zero =>
        have z := trcW_e (w := ac0W w nx t) (e := e) (t := t)
        rw [show 19 + 2 * 0 = 19 from rfl, show 20 + 2 * 0 = 20 from rfl, z.1, z.2]
        exact ⟨hte, t0, t1⟩
      | succ k =>
        have z := trcW_k (e := e) (t := t) (k := k) h8 (by omega)
        rw [z.1, z.2, ac0W_o hr h24 (by omega), ac0W_o hr h24 (by omega)]
        exact d4 k (by omega)
  · rw [if_neg hv]
    exact rejW_d hN v1 q0
end A

/-! the law: each change on both sides -/
section A
variable {K : List AKd} {h : Nat → Nat → Int} {R : R4} {σ : Sg} {r d : Nat} {n N M : Int}
theorem op49 {i : Int} (q : Rel r d N h h) (hN : 1 ≤ N ∧ N < 1000000000) : OpB r d N R (ev 307 0 [AR 1, AI i, AR 282, AU] [] (KS r d, h, R)) (fun h1 R1 => ev 271 0 [AR 268, AI i] [] (KS r d, h1, R1)) (fun _ => True) := by
  have hM := q.1
  obtain ⟨-, ⟨hd, hx, -⟩, hn, -, -, -⟩ := id q.1
  obtain ⟨hW, hc, d1, d2, d3, d4⟩ := id hd
  obtain ⟨v0, v1, v2, v3, v4⟩ := hW.1
  have hf := hW.ft
  have hh := hereW_r hc
  have hp := q.2.1.1
  have hc4 := q.2.1.2.1
  have hc8 := q.2.1.2.2.1
  have hcn : 0 ≤ h 34 2 ∧ h 34 2 ≤ 8 := by rw [hc4]; exact hc8
  have hq : ∀ h1 : Nat → Nat → Int, h1 268 4 = h 268 4 → 0 ≤ h1 268 4 ∧ h1 268 4 ≤ 8 := fun h1 e => by rw [e]; exact hc8
  by_cases hi : 0 ≤ i ∧ i < (h 269) 1
  · exact opCt q (wT307 (s122t hM hp hcn hi)) (fun h1 R1 e e4 => s271t (w := h 269) e v1 hf hc d1 (hq h1 e4) hi) ((firW_d (by omega) hd).up (by omega)) (EX_fir hd hx).1 (EX_fir hd hx).2 trivial
  · exact opCf (c := 1) (by decide) (wF307_0 (cF q (s122f hM hi))) (fun h1 R1 e eg => rE (s271f (w := h 269) e v1 hi))
theorem op50 {i x : Int} (q : Rel r d N h h) (hN : 1 ≤ N ∧ N < 1000000000) : OpB r d N R (ev 308 0 [AR 1, AI i, AI x, AR 282, AU] [] (KS r d, h, R)) (fun h1 R1 => ev 272 0 [AR 268, AI i, AI x] [] (KS r d, h1, R1)) (fun _ => True) := by
  have hM := q.1
  obtain ⟨-, ⟨hd, hx, -⟩, hn, -, -, -⟩ := id q.1
  obtain ⟨hW, hc, d1, d2, d3, d4⟩ := id hd
  obtain ⟨v0, v1, v2, v3, v4⟩ := hW.1
  have hf := hW.ft
  have hh := hereW_r hc
  have hp := q.2.1.1
  have hc4 := q.2.1.2.1
  have hc8 := q.2.1.2.2.1
  have hcn : 0 ≤ h 34 2 ∧ h 34 2 ≤ 8 := by rw [hc4]; exact hc8
  have hq : ∀ h1 : Nat → Nat → Int, h1 268 4 = h 268 4 → 0 ≤ h1 268 4 ∧ h1 268 4 ≤ 8 := fun h1 e => by rw [e]; exact hc8
  by_cases hi : 0 ≤ i ∧ i < (h 269) 2
  · by_cases hv : 0 ≤ x ∧ x ≤ 9
    · by_cases hm : fb (h 269) (withV (hereW (h 269)) i x) = -1
      · exact opCt q (wT308 (s123t hM hp hcn hi hv hm)) (fun h1 R1 e e4 => s272t (w := h 269) e v2 hf hc (hq h1 e4) hi hv hm) ((set_d ⟨hi.1, by omega⟩ hv hd).up (by omega)) (EX_set hd hx ⟨hi.1, by omega⟩) (SR_set ⟨hi.1, by omega⟩) trivial
      · exact opCf (c := 3) (by decide) (wF308_2 ((s123c hM hi hv hm).mono (fun o ⟨h1, a, e⟩ => ⟨h1, ⟨q.st a, fun x y z => a x y (by omega)⟩, e⟩))) (fun h1 R1 e eg => rE (s272c (w := h 269) e v2 hf hc hi hv hm))
    · exact opCf (c := 2) (by decide) (wF308_1 (cF q (s123b hM hi hv))) (fun h1 R1 e eg => rE (s272b (w := h 269) e v2 hi hv))
  · exact opCf (c := 1) (by decide) (wF308_0 (cF q (s123a hM hi))) (fun h1 R1 e eg => rE (s272a (w := h 269) e v2 hi))
theorem op53 {i x c : Int} (q : Rel r d N h h) (hN : 1 ≤ N ∧ N < 1000000000) : OpB r d N R (ev 309 0 [AR 1, AI i, AI x, AI c, AR 282, AU] [] (KS r d, h, R)) (fun h1 R1 => ev 276 0 [AR 268, AI i, AI x, AI c] [] (KS r d, h1, R1)) (fun _ => True) := by
  have hM := q.1
  obtain ⟨-, ⟨hd, hx, -⟩, hn, -, -, -⟩ := id q.1
  obtain ⟨hW, hc, d1, d2, d3, d4⟩ := id hd
  obtain ⟨v0, v1, v2, v3, v4⟩ := hW.1
  have hf := hW.ft
  have hh := hereW_r hc
  have hp := q.2.1.1
  have hc4 := q.2.1.2.1
  have hc8 := q.2.1.2.2.1
  have hcn : 0 ≤ h 34 2 ∧ h 34 2 ≤ 8 := by rw [hc4]; exact hc8
  have hq : ∀ h1 : Nat → Nat → Int, h1 268 4 = h 268 4 → 0 ≤ h1 268 4 ∧ h1 268 4 ≤ 8 := fun h1 e => by rw [e]; exact hc8
  by_cases hi : 0 ≤ i ∧ i < (h 269) 2
  · by_cases hv : (0 ≤ x ∧ x ≤ 5) ∧ (0 ≤ c ∧ c ≤ 9)
    · by_cases hm : mkpB (h 269) i x c = true
      · have h4 : (h 269) 4 < 12 := by
          have hm2 := hm
          unfold mkpB at hm2
          simp only [Bool.and_eq_true, decide_eq_true_eq] at hm2
          have := hm2.1.1
          omega
        exact opCt q (wT309 (s126t hM hp hcn hi hv hm)) (fun h1 R1 e e4 => s276t (w := h 269) e v2 v4 (hq h1 e4) hi hv hm) ((keepW_d hd h4 (Or.inl rfl) hi hv.1 hv.2).up (by omega)) (EX_keep hd hx h4) (SR_keep hd h4) trivial
      · exact opCf (c := 3) (by decide) (wF309_2 (cF q (s126c hM hi hv hm))) (fun h1 R1 e eg => rE (s276c (w := h 269) e v2 hi hv hm))
    · exact opCf (c := 2) (by decide) (wF309_1 (cF q (s126b hM hi hv))) (fun h1 R1 e eg => rE (s276b (w := h 269) e v2 hi hv))
  · exact opCf (c := 1) (by decide) (wF309_0 (cF q (s126a hM hi))) (fun h1 R1 e eg => rE (s276a (w := h 269) e v2 hi))
theorem op51 (q : Rel r d N h h) (hN : 1 ≤ N ∧ N < 1000000000) : OpA AInt N R (ev 124 0 [AR 1, AU] [] (KS r d, h, R)) (fun r1 d1 h1 => ev 273 0 [AR 268] [] (KS r1 d1, h1, R)) := by
  have hM := q.1
  obtain ⟨-, ⟨hd, hx, -⟩, hn, -, -, -⟩ := id q.1
  obtain ⟨hW, hc, d1, d2, d3, d4⟩ := id hd
  obtain ⟨v0, v1, v2, v3, v4⟩ := hW.1
  have hf := hW.ft
  have hh := hereW_r hc
  have hp := q.2.1.1
  have hc4 := q.2.1.2.1
  have hc8 := q.2.1.2.2.1
  have hcn : 0 ≤ h 34 2 ∧ h 34 2 ≤ 8 := by rw [hc4]; exact hc8
  exact opCA q (s124 hM hp hcn) (fun h1 e e4 => s273 (w := h 269) e (by rw [e4]; exact hc8)) ((g2sW_d hd).up (by omega)) (EX_g2 hd hx) SR_g2
theorem op52 (q : Rel r d N h h) (hN : 1 ≤ N ∧ N < 1000000000) : OpA AInt N R (ev 125 0 [AR 1, AU] [] (KS r d, h, R)) (fun r1 d1 h1 => ev 274 0 [AR 268] [] (KS r1 d1, h1, R)) := by
  have hM := q.1
  obtain ⟨-, ⟨hd, hx, -⟩, hn, -, -, -⟩ := id q.1
  obtain ⟨hW, hc, d1, d2, d3, d4⟩ := id hd
  obtain ⟨v0, v1, v2, v3, v4⟩ := hW.1
  have hf := hW.ft
  have hh := hereW_r hc
  have hp := q.2.1.1
  have hc4 := q.2.1.2.1
  have hc8 := q.2.1.2.2.1
  have hcn : 0 ≤ h 34 2 ∧ h 34 2 ≤ 8 := by rw [hc4]; exact hc8
  exact opCA q (s125 hM hp hcn) (fun h1 e e4 => s274 (w := h 269) e hc.1 (by rw [e4]; exact hc8)) ((clrW_d hN.1 hd).up (by omega)) (EX_clr hd hx hn.1) (SR_clr hd)
theorem op54 (q : Rel r d N h h) (hN : 1 ≤ N ∧ N < 1000000000) : OpB r d N R (ev 310 0 [AR 1, AR 282, AU] [] (KS r d, h, R)) (fun h1 R1 => ev 277 0 [AR 268] [] (KS r d, h1, R1)) (fun _ => True) := by
  have hM := q.1
  obtain ⟨-, ⟨hd, hx, -⟩, hn, -, -, -⟩ := id q.1
  obtain ⟨hW, hc, d1, d2, d3, d4⟩ := id hd
  obtain ⟨v0, v1, v2, v3, v4⟩ := hW.1
  have hf := hW.ft
  have hh := hereW_r hc
  have hp := q.2.1.1
  have hc4 := q.2.1.2.1
  have hc8 := q.2.1.2.2.1
  have hcn : 0 ≤ h 34 2 ∧ h 34 2 ≤ 8 := by rw [hc4]; exact hc8
  by_cases z : h 268 4 = 0
  · exact opCf (c := 1) (by decide) (wF310_3 (cF q (s127f (hc4.trans z)))) (fun h1 R1 e eg => rE (s277f ((eg _ _ (by decide)).trans z)))
  · obtain ⟨c, ec⟩ : ∃ c, h 268 4 = c + 1 := ⟨h 268 4 - 1, by omega⟩
    have hv := q.2.1.2.2.2 c.toNat (by omega)
    rw [ec, show (h 34 1 + 9 + (c.toNat : Int) - (c + 1)) % 8 = h 34 1 by omega] at hv
    have e5 : 504 * c.toNat = (504 * c).toNat := by omega
    refine (wT310 (v := c) (P := fun h1 => BkQ h (cutW (h 272) (504 * c.toNat)) h1 ∧ h1 34 1 = (h 34 1 + 7) % 8 ∧ h1 34 2 = c + 1 - 1) ((s127t hv.2.1 hp (hc4.trans ec) (by omega) hv.1).mono (fun o ⟨h1, a, e⟩ => ⟨h1, a, by rw [show c = c + 1 - 1 by omega]; exact e⟩))).mono (fun o ⟨h1, ⟨p1, p2, p3⟩, e⟩ => ⟨0, hput h1 282 0 c, R, e, Or.inl rfl, ?_⟩)
    have pe : ∀ x y, 268 ≤ x → x ≠ 282 → hput h1 282 0 c x y = h x y := fun x y y1 y2 => (hput_k y2).trans (p1.1 x y (by omega) (by omega) (by omega))
    refine Rn.to (s277t (p := c) ((pe _ _ (by decide) (by decide)).trans ec) (by omega)) ⟨c, _, rfl, ?_, fun _ => ⟨?_, trivial⟩, ?_⟩
    · exact (hcp_k (by decide)).trans ((hput_j (by decide)).trans hput_s)
    · exact (hcp_k (by decide)).trans ((hput_k (by decide)).trans ((hput_k (by decide)).trans hput_s))
    · have ge : ∀ x y, 268 ≤ x → x ≠ 282 → x ≠ 269 → ¬ (x = 268 ∧ (y = 4 ∨ y = 6)) → hcopy (hput (hput (hput h1 282 0 c) 268 6 0) 268 4 c) 272 (504 * c).toNat 269 0 504 x y = h x y := fun x y y1 y2 y3 y4 => (hcp_k y3).trans ((if_neg (by omega)).trans ((if_neg (by omega)).trans (pe x y y1 y2)))
      have z1 := q.undo (g1 := hcopy (hput (hput (hput h1 282 0 c) 268 6 0) 268 4 c) 272 (504 * c).toNat 269 0 504) ec (by omega) p1 p2 (p3.trans (by omega)) ((hcp_k (by decide)).trans hput_s) (fun y hy => ?_) (fun x y y1 => ge x y (by omega) (by omega) (by omega) (by omega))
      · exact (z1.both (fun x y y1 => (hcp_k (by omega)).trans ((hput_k (by omega)).trans ((hput_k (by omega)).trans (hput_k (by omega))))) (fun _ _ _ => rfl)).up (by omega)
      · unfold hcopy
        rw [if_pos ⟨rfl, by omega, by omega⟩, e5, show y - 0 = y from rfl]
        exact (hput_k (by decide)).trans ((hput_k (by decide)).trans (pe _ _ (by decide) (by decide)))
theorem op58 (q : Rel r d N h h) (hN : 1 ≤ N ∧ N < 1000000000) : OpB r d N R (ev 311 0 [AR 1, AR 282, AU] [] (KS r d, h, R)) (fun h1 R1 => ev 283 0 [AR 268] [] (KS r d, h1, R1)) (fun _ => True) := by
  have hM := q.1
  obtain ⟨-, ⟨hd, hx, -⟩, hn, -, -, -⟩ := id q.1
  obtain ⟨hW, hc, d1, d2, d3, d4⟩ := id hd
  obtain ⟨v0, v1, v2, v3, v4⟩ := hW.1
  have hf := hW.ft
  have hh := hereW_r hc
  have hp := q.2.1.1
  have hc4 := q.2.1.2.1
  have hc8 := q.2.1.2.2.1
  have hcn : 0 ≤ h 34 2 ∧ h 34 2 ≤ 8 := by rw [hc4]; exact hc8
  by_cases z : h 268 5 = 0
  · exact opCf (c := 1) (by decide) (wF311_3 (cF q (s131f (Classical.byContradiction (fun y => q.2.2.1.1.1 y z))))) (fun h1 R1 e eg => rE (s283f ((eg _ _ (by decide)).trans z)))
  · have hv := q.2.2.1.2 z
    have u5 : cutW (h 271) 0 5 = h 271 5 := if_pos (by decide)
    refine (wT311 (v := h 271 5) (P := fun h1 => BkQ h (cutW (h 271) 0) h1 ∧ h1 34 1 = h 34 1 ∧ h1 34 2 = 0) ((s131t hv.2.1 (q.2.2.1.1.2 z) hv.1).mono (fun o ⟨h1, a, e⟩ => ⟨h1, a, by rw [← u5]; exact e⟩))).mono (fun o ⟨h1, ⟨p1, p2, p3⟩, e⟩ => ⟨0, hput h1 282 0 (h 271 5), R, e, Or.inl rfl, ?_⟩)
    have pe : ∀ x y, 268 ≤ x → x ≠ 282 → hput h1 282 0 (h 271 5) x y = h x y := fun x y y1 y2 => (hput_k y2).trans (p1.1 x y (by omega) (by omega) (by omega))
    have z2 := s283t (r := r) (d := d) (R := R) (h := hput h1 282 0 (h 271 5)) (by rw [pe _ _ (by decide) (by decide)]; exact z)
    rw [pe 271 5 (by decide) (by decide)] at z2
    refine Rn.to z2 ⟨h 271 5, _, rfl, ?_, fun _ => ⟨?_, trivial⟩, ?_⟩
    · exact (hput_j (by decide)).trans ((hcp_k (by decide)).trans hput_s)
    · exact (hput_k (by decide)).trans ((hcp_k (by decide)).trans ((hput_k (by decide)).trans hput_s))
    · have ge : ∀ x y, 268 ≤ x → x ≠ 282 → x ≠ 269 → ¬ (x = 268 ∧ (y = 4 ∨ y = 6)) → hput (hcopy (hput (hput h1 282 0 (h 271 5)) 268 6 0) 271 0 269 0 504) 268 4 0 x y = h x y := fun x y y1 y2 y3 y4 => (if_neg (by omega)).trans ((hcp_k y3).trans ((if_neg (by omega)).trans (pe x y y1 y2)))
      have z1 := q.rest (g1 := hput (hcopy (hput (hput h1 282 0 (h 271 5)) 268 6 0) 271 0 269 0 504) 268 4 0) z p1 p2 p3 hput_s (fun y hy => (hput_k (by decide)).trans ((hcp_s hy).trans ((hput_k (by decide)).trans (pe _ _ (by decide) (by decide))))) (fun x y y1 => ge x y (by omega) (by omega) (by omega) (by omega))
      exact (z1.both (fun x y y1 => (hput_k (by omega)).trans ((hcp_k (by omega)).trans ((hput_k (by omega)).trans (hput_k (by omega))))) (fun _ _ _ => rfl)).up (by omega)
theorem op57 (q : Rel r d N h h) (hN : 1 ≤ N ∧ N < 1000000000) : OpA AInt N R (ev 130 0 [AR 1] [] (KS r d, h, R)) (fun r1 d1 h1 => ev 282 0 [AR 268] [] (KS r1 d1, h1, R)) := by
  have hM := q.1
  obtain ⟨-, ⟨hd, hx, -⟩, hn, -, -, -⟩ := id q.1
  obtain ⟨hW, hc, d1, d2, d3, d4⟩ := id hd
  obtain ⟨v0, v1, v2, v3, v4⟩ := hW.1
  have hf := hW.ft
  have hh := hereW_r hc
  have hp := q.2.1.1
  have hc4 := q.2.1.2.1
  have hc8 := q.2.1.2.2.1
  have hcn : 0 ≤ h 34 2 ∧ h 34 2 ≤ 8 := by rw [hc4]; exact hc8
  refine (s130 hM).mono (fun o ⟨h1, ⟨p1, p2, p3⟩, e⟩ => ⟨AI ((h 269) 5), h1, r, d, e, ⟨_, rfl⟩, ?_⟩)
  have pe : ∀ x y, 268 ≤ x → h1 x y = h x y := fun x y y1 => p1 x y (by omega) (by omega)
  have e9 : h1 269 = h 269 := funext fun y => pe 269 y (by decide)
  refine Rn.to (s282 (w := h 269) e9) ⟨_, rfl, ?_⟩
  have ge : ∀ x y, 268 ≤ x → x ≠ 271 → ¬ (x = 268 ∧ (y = 5 ∨ y = 6)) → hput (hcopy (hput h1 268 6 0) 269 0 271 0 504) 268 5 1 x y = h x y := fun x y y1 y2 y3 => (if_neg (by omega)).trans ((hcp_k y2).trans ((if_neg (by omega)).trans (pe x y y1)))
  have z1 := q.save (g1 := hput (hcopy (hput h1 268 6 0) 269 0 271 0 504) 268 5 1) p1 p2 p3 hput_s (fun y hy => (hput_k (by decide)).trans ((hcp_s hy).trans ((hput_k (by decide)).trans (pe _ _ (by decide))))) (fun x y y1 => ge x y (by omega) (by omega) (by omega))
  exact (z1.both (fun x y y1 => (hput_k (by omega)).trans ((hcp_k (by omega)).trans (hput_k (by omega)))) (fun _ _ _ => rfl)).up (by omega)
theorem op0 {x1 x2 x3 x4 x5 : Int} (q : Rel r d N h h) (hN : 1 ≤ N ∧ N < 1000000000) : OpA AInt N R (ev 73 0 [AR 1, AI x1, AI x2, AI x3, AI x4, AI x5] [] (KS r d, h, R)) (fun r1 d1 h1 => ev 188 0 [AR 268, AI x1, AI x2, AI x3, AI x4, AI x5] [] (KS r1 d1, h1, R)) := by
  have hM := q.1
  obtain ⟨-, ⟨hd, hx, -⟩, hn, -, -, -⟩ := id q.1
  obtain ⟨hW, hc, d1, d2, d3, d4⟩ := id hd
  obtain ⟨v0, v1, v2, v3, v4⟩ := hW.1
  have hf := hW.ft
  have hh := hereW_r hc
  have hp := q.2.1.1
  have hc4 := q.2.1.2.1
  have hc8 := q.2.1.2.2.1
  have hcn : 0 ≤ h 34 2 ∧ h 34 2 ≤ 8 := by rw [hc4]; exact hc8
  obtain ⟨⟨t1, t2, t3, t4⟩, -, -⟩ := q.t0
  refine (s73 (b := h 3) (n := h 268 13) rfl t1 t2).mono (fun o z => ?_)
  rcases z with ⟨z1, h1, z2, e⟩ | ⟨z1, e⟩
  · refine ⟨AI (h 268 13 + 20), h1, r, d, e, ⟨_, rfl⟩, ?_⟩
    have pe : ∀ x y, 268 ≤ x → h1 x y = h x y := fun x y y1 => z2.2 x y (by omega) (by omega)
    refine (s188 (b := h 275) (n := h 268 13) (funext fun y => pe 275 y (by decide)) (pe _ _ (by decide)) t2).mono (fun o2 y => ?_)
    rcases y with ⟨y1, h2, y2, e2⟩ | ⟨y1, e2⟩
    · refine ⟨h2, e2, ?_⟩
      have y3 : Tx (hput h 268 6 0) (apI (h 275) (h 268 13) x1 x2 x3 x4 x5) (h 268 13 + 20) (fun x y => if x < 268 then h x y else h2 x y) := by
        refine ⟨⟨funext fun y => (if_neg (by decide)).trans (congrFun y2.1.1 y), (if_neg (by decide)).trans y2.1.2⟩, fun x y n1 n2 => ?_⟩
        show (if x < 268 then h x y else h2 x y) = _
        · by_cases g : x < 268
          · rw [if_pos g]
            exact (hput_k (by omega)).symm
          · rw [if_neg g]
            refine (y2.2 x y n1 n2).trans ?_
            unfold hput
            split
            · rfl
            · exact pe x y (by omega)
      exact ((q.app z1 z2 y3).both (fun x y g => (y2.2 x y (by omega) (by omega)).trans (hput_k (by omega))) (fun x y g => (if_neg (by omega)).symm)).up (by omega)
    · omega
  · refine ⟨AI (-1), h, r, d, e, ⟨_, rfl⟩, ?_⟩
    refine (s188 (b := h 275) (n := h 268 13) rfl rfl t2).mono (fun o2 y => ?_)
    rcases y with ⟨y1, h2, y2, e2⟩ | ⟨y1, e2⟩
    · omega
    · exact ⟨_, e2, ((q.qr (g1 := hput h 268 6 0) (fun x y g => if_neg (by omega))).both (fun x y g => hput_k (by omega)) (fun _ _ _ => rfl)).up (by omega)⟩
theorem op1 {x : Int} (q : Rel r d N h h) (hN : 1 ≤ N ∧ N < 1000000000) : OpA AInt N R (ev 74 0 [AR 1, AI x] [] (KS r d, h, R)) (fun r1 d1 h1 => ev 189 0 [AR 268, AI x] [] (KS r1 d1, h1, R)) := by
  have hM := q.1
  obtain ⟨-, ⟨hd, hx, -⟩, hn, -, -, -⟩ := id q.1
  obtain ⟨hW, hc, d1, d2, d3, d4⟩ := id hd
  obtain ⟨v0, v1, v2, v3, v4⟩ := hW.1
  have hf := hW.ft
  have hh := hereW_r hc
  have hp := q.2.1.1
  have hc4 := q.2.1.2.1
  have hc8 := q.2.1.2.2.1
  have hcn : 0 ≤ h 34 2 ∧ h 34 2 ≤ 8 := by rw [hc4]; exact hc8
  obtain ⟨⟨t1, t2, t3, t4⟩, -, -⟩ := q.t0
  refine (s74 (n := h 268 13) t1 t2).mono (fun o z => ?_)
  rcases z with ⟨z1, z2, e⟩ | ⟨z1, e⟩
  · refine ⟨AI 1, _, r, d, e, ⟨_, rfl⟩, ?_⟩
    refine (s189 (n := h 268 13) (hput_k (by decide)) t2).mono (fun o2 y => ?_)
    rcases y with ⟨y1, y2, e2⟩ | ⟨y1, e2⟩
    · exact ⟨_, e2, ((q.trunc ⟨z1, z2⟩).both (fun x y g => (hput_k (by omega)).trans (hput_k (by omega))) (fun x y g => by unfold hput; split <;> (try rfl) <;> split <;> (try rfl) <;> exact if_neg (by omega))).up (by omega)⟩
    · omega
  · refine ⟨AI 0, h, r, d, e, ⟨_, rfl⟩, ?_⟩
    refine (s189 (n := h 268 13) rfl t2).mono (fun o2 y => ?_)
    rcases y with ⟨y1, y2, e2⟩ | ⟨y1, e2⟩
    · exact absurd ⟨y1, y2⟩ z1
    · exact ⟨_, e2, ((q.qr (g1 := hput h 268 6 0) (fun x y g => if_neg (by omega))).both (fun x y g => hput_k (by omega)) (fun _ _ _ => rfl)).up (by omega)⟩
theorem op55 (q : Rel r d N h h) (hN : 1 ≤ N ∧ N < 1000000000) : OpA AInt N R (ev 128 0 [AR 1, AU] [] (KS r d, h, R)) (fun r1 d1 h1 => ev 280 0 [AR 268, AU] [] (KS r1 d1, h1, R)) := by
  have hM := q.1
  obtain ⟨-, ⟨hd, hx, -⟩, hn, -, -, -⟩ := id q.1
  obtain ⟨hW, hc, d1, d2, d3, d4⟩ := id hd
  obtain ⟨v0, v1, v2, v3, v4⟩ := hW.1
  have hf := hW.ft
  have hh := hereW_r hc
  have hp := q.2.1.1
  have hc4 := q.2.1.2.1
  have hc8 := q.2.1.2.2.1
  have hcn : 0 ≤ h 34 2 ∧ h 34 2 ≤ 8 := by rw [hc4]; exact hc8
  refine (s128 hM.rd.1 hW hc (by have := d3; have := hn.1; omega) hM.2.2.2.1.1.1 hM.2.2.2.1.1.2.2 hM.2.2.2.2.1).mono (fun o ⟨h1, p, e⟩ => ⟨AI (outW (h 269)).2, h1, r, d, e, ⟨_, rfl⟩, ?_⟩)
  have pe : ∀ x y, 268 ≤ x → h1 x y = h x y := fun x y y1 => p.2.2 x y (by omega) (by omega)
  have e9 : h1 269 = h 269 := funext fun y => pe 269 y (by decide)
  refine (s280 (w := h 269) e9 hc v2 ⟨by have := d3; have := hn.1; omega, v0.2⟩ hW.2.2.1).mono (fun o2 ⟨h2, y2, e2⟩ => ⟨h2, e2, ?_⟩)
  have y3 : OC (hput h 268 6 0) (outW (h 269)) (fun x y => if x < 268 then h x y else h2 x y) := by
    refine ⟨(if_neg (by decide)).trans y2.1, fun y hy => (if_neg (by decide)).trans (y2.2.1 y hy), fun x y n1 n2 => ?_⟩
    show (if x < 268 then h x y else h2 x y) = _
    by_cases g : x < 268
    · rw [if_pos g]
      exact (hput_k (by omega)).symm
    · rw [if_neg g]
      refine (y2.2.2 x y n1 n2).trans ?_
      unfold hput
      split
      · rfl
      · exact pe x y (by omega)
  exact ((q.out p y3).both (fun x y g => (y2.2.2 x y (by omega) (by omega)).trans (hput_k (by omega))) (fun x y g => (if_neg (by omega)).symm)).up (by omega)
theorem op56 {x : Int} (q : Rel r d N h h) (hN : 1 ≤ N ∧ N < 1000000000) : OpA AInt N R (ev 129 0 [AR 1, AI x] [] (KS r d, h, R)) (fun r1 d1 h1 => ev 281 0 [AR 268, AI x] [] (KS r1 d1, h1, R)) := by
  have hM := q.1
  obtain ⟨-, ⟨hd, hx, -⟩, hn, -, -, -⟩ := id q.1
  obtain ⟨hW, hc, d1, d2, d3, d4⟩ := id hd
  obtain ⟨v0, v1, v2, v3, v4⟩ := hW.1
  have hf := hW.ft
  have hh := hereW_r hc
  have hp := q.2.1.1
  have hc4 := q.2.1.2.1
  have hc8 := q.2.1.2.2.1
  have hcn : 0 ≤ h 34 2 ∧ h 34 2 ≤ 8 := by rw [hc4]; exact hc8
  obtain ⟨-, -, f1, f2, f3⟩ := q.t0
  have z := s129 (r := r) (d := d) (R := R) (i := x) f1 f2.2
  have ev : (if 0 ≤ x ∧ x < h 268 30 then h 155 x.toNat else -1) = (if 0 ≤ x ∧ x < h 268 30 then h 281 x.toNat else -1) := by
    by_cases g : 0 ≤ x ∧ x < h 268 30
    · rw [if_pos g, if_pos g]
      exact f3 x.toNat (by omega)
    · rw [if_neg g, if_neg g]
  rw [ev] at z
  refine opQA (tc := 0) (cE q z) (fun h1 e eg => rE (tc := 0) ?_) ⟨_, rfl⟩
  have y := s281 (r := r) (d := d) (R := R) (h := h1) (b := x) (by rw [eg _ _ (by decide)]; omega)
  rw [eg 268 30 (by decide), eg 281 _ (by decide)] at y
  exact y
theorem op2 (q : Rel r d N h h) (hN : 1 ≤ N ∧ N < 1000000000) : OpA AInt N R (ev 75 0 [AR 1, AU] [] (KS r d, h, R)) (fun r1 d1 h1 => ev 215 0 [AR 268, AU] [] (KS r1 d1, h1, R)) := by
  have hM := q.1
  obtain ⟨-, ⟨hd, hx, -⟩, hn, -, -, -⟩ := id q.1
  obtain ⟨hW, hc, d1, d2, d3, d4⟩ := id hd
  obtain ⟨v0, v1, v2, v3, v4⟩ := hW.1
  have hf := hW.ft
  have hh := hereW_r hc
  have hp := q.2.1.1
  have hc4 := q.2.1.2.1
  have hc8 := q.2.1.2.2.1
  have hcn : 0 ≤ h 34 2 ∧ h 34 2 ≤ 8 := by rw [hc4]; exact hc8
  obtain ⟨⟨t1, t2, t3, t4⟩, -, f1, f2, f3⟩ := q.t0
  have hrd := hM.rd
  have hdd : RD2 d := by have := hM.1.1; unfold RD2; omega
  have em := mTxt_q (w := h 269) (nn := h 276) q.bq t2.2
  have z := s75 (r := r) (d := d) (R := R) (w := h 269) (nn := h 276) hrd.1 hdd hM.1.2 rfl t1 t2.2 t4
  cases hm : mTxt (h 3) (h 268 13) (h 269) (h 276) with
  | inl e =>
    rw [hm] at z em
    refine z.mono (fun o ⟨h1, ⟨p1, ⟨p2, p3⟩, p4⟩, eo⟩ => ⟨AI (-1), h1, r, d, eo, ⟨_, rfl⟩, ?_⟩)
    have pe : ∀ x y, 268 ≤ x → h1 x y = h x y := fun x y y1 => p1 x y (by omega) (by omega) (by have := hM.1.1; omega)
    have e9 : h1 269 = h 269 := funext fun y => pe 269 y (by decide)
    have e6 : h1 276 = h 276 := funext fun y => pe 276 y (by decide)
    have z2 := s215 (r := r) (d := d) (R := R) (h := h1) (b := h 275) (n := h 268 13) (funext fun y => pe 275 y (by decide)) (pe _ _ (by decide)) t2.2
    rw [e9, e6, ← em] at z2
    refine z2.mono (fun o2 ⟨h2, c1, c2, c3, e2, c4, c5, c6, c7, c8⟩ => ⟨h2, e2, ?_⟩)
    have c9 : ∀ x y, x < 268 → h2 x y = h1 x y := fun x y y1 => c1 x y (by unfold txc scr; omega)
    have z3 := q.rd (h1 := h1) (g1 := h2) (fun x y y1 y2 y3 y4 => p1 x y y1 y3 y4) (p2.trans c4.symm) (p3.trans c5.symm) p4 c3 (fun y hy => (c8 y hy).trans (pe _ _ (by decide))) (fun x y y1 => ?_)
    · exact (z3.both c9 (fun _ _ _ => rfl)).up (by omega)
    · by_cases g : x = 268 ∧ y = 4
      · rw [g.1, g.2]
        exact c6.trans (pe _ _ (by decide))
      · by_cases g2 : x = 268 ∧ y = 5
        · rw [g2.1, g2.2]
          exact c7.trans (pe _ _ (by decide))
        · exact (c1 x y (by unfold txc scr; omega)).trans (pe x y (by omega))
  | inr s =>
    rw [hm] at z em
    refine z.mono (fun o ⟨h1, ⟨p1, p2, p3, p4, p5, p6, p7, p8⟩, eo⟩ => ⟨AI (s.1 0), h1, d, r, eo, ⟨_, rfl⟩, ?_⟩)
    have pe : ∀ x y, 268 ≤ x → h1 x y = h x y := fun x y y1 => p1 x y (by omega) (by omega) (by omega) (by omega) (by omega) (by have := hM.1.1; omega)
    have e9 : h1 269 = h 269 := funext fun y => pe 269 y (by decide)
    have e6 : h1 276 = h 276 := funext fun y => pe 276 y (by decide)
    have z2 := s215 (r := d) (d := r) (R := R) (h := h1) (b := h 275) (n := h 268 13) (funext fun y => pe 275 y (by decide)) (pe _ _ (by decide)) t2.2
    rw [e9, e6, ← em] at z2
    refine z2.mono (fun o2 ⟨h2, c1, c2, c3, e2, c4, c5, c6, c7, c8⟩ => ⟨h2, e2, ?_⟩)
    have c9 : ∀ x y, x < 268 → h2 x y = h1 x y := fun x y y1 => c1 x y (by unfold txc scr; omega)
    have z3 := q.load (h1 := h1) (g1 := h2) hN.1 t2.2 hm p1 p2 p3 p4 p5 p6 p7 p8 c3 c4 c5 c6 c7 c8 (fun x y y1 => (c1 x y (by unfold txc scr; omega)).trans (pe x y (by omega)))
    exact (z3.both c9 (fun _ _ _ => rfl)).up (by omega)
theorem op3 (q : Rel r d N h h) (hN : 1 ≤ N ∧ N < 1000000000) : OpA AInt N R (ev 76 0 [AR 1, AU] [] (KS r d, h, R)) (fun r1 d1 h1 => ev 220 0 [AR 268, AU, AU] [] (KS r1 d1, h1, R)) := by
  have hM := q.1
  obtain ⟨-, ⟨hd, hx, -⟩, hn, -, -, -⟩ := id q.1
  obtain ⟨hW, hc, d1, d2, d3, d4⟩ := id hd
  obtain ⟨v0, v1, v2, v3, v4⟩ := hW.1
  have hf := hW.ft
  have hh := hereW_r hc
  have hp := q.2.1.1
  have hc4 := q.2.1.2.1
  have hc8 := q.2.1.2.2.1
  have hcn : 0 ≤ h 34 2 ∧ h 34 2 ≤ 8 := by rw [hc4]; exact hc8
  obtain ⟨⟨t1, t2, t3, t4⟩, -, f1, f2, f3⟩ := q.t0
  have hrd := hM.rd
  have em := mRun_q (w := h 269) (nn := h 276) q.bq t2.2
  have z := s76 (R := R) (nn := h 276) hM ⟨by omega, hN.2⟩ hp hcn rfl t1 t2.2 t4
  cases hm : mRun (h 3) (h 268 13) (h 269) (h 276) with
  | inl e =>
    rw [hm] at z em
    refine z.mono (fun o ⟨h1, ⟨p1, ⟨p2, p3⟩, p4⟩, eo⟩ => ⟨AI (-1), h1, r, d, eo, ⟨_, rfl⟩, ?_⟩)
    have pe : ∀ x y, 268 ≤ x → h1 x y = h x y := fun x y y1 => p1 x y (by omega) (by omega) (by omega)
    have e9 : h1 269 = h 269 := funext fun y => pe 269 y (by decide)
    have e6 : h1 276 = h 276 := funext fun y => pe 276 y (by decide)
    have z2 := s220 (r := r) (d := d) (R := R) (h := h1) (N := N) (b := h 275) (n := h 268 13) (funext fun y => pe 275 y (by decide)) (pe _ _ (by decide)) t2.2 (by rw [e9]; exact hd) (by omega) hN.2 (by rw [pe _ _ (by decide)]; exact hc8)
    rw [e9, e6, ← em] at z2
    refine z2.mono (fun o2 ⟨h2, ⟨c2, c3, c4, c5⟩, c1, e2⟩ => ⟨h2, e2, ?_⟩)
    have z3 := q.rd (h1 := h1) (g1 := h2) (fun x y y1 y2 y3 y4 => p1 x y y1 y2 y3) (p2.trans c4.symm) (p3.trans c5.symm) p4 c3 (fun y hy => (c1 269 y (by omega) (by omega) (by omega) (by omega)).trans (pe _ _ (by decide))) (fun x y y1 => (c1 x y (by omega) (by omega) (by omega) (by omega)).trans (pe x y (by omega)))
    exact (z3.both (fun x y y1 => c1 x y (by omega) (by omega) (by omega) (by omega)) (fun _ _ _ => rfl)).up (by omega)
  | inr zz =>
    rw [hm] at z em
    refine z.mono (fun o ⟨h1, h2, ⟨p1, ⟨p2, p3⟩, p4⟩, pc, px, ps, eo⟩ => ⟨AI (mEx zz.2 zz.2.2.2.2.toNat 0 (h 269)).1, h2, r, d, eo, ⟨_, rfl⟩, ?_⟩)
    have pe1 : ∀ x y, 268 ≤ x → h1 x y = h x y := fun x y y1 => p1 x y (by omega) (by omega) (by omega)
    have pe : ∀ x y, 268 ≤ x → h2 x y = h x y := fun x y y1 => (pc.put x y (by omega)).trans (pe1 x y y1)
    have e9 : h2 269 = h 269 := funext fun y => pe 269 y (by decide)
    have e6 : h2 276 = h 276 := funext fun y => pe 276 y (by decide)
    have z2 := s220 (r := r) (d := d) (R := R) (h := h2) (N := N) (b := h 275) (n := h 268 13) (funext fun y => pe 275 y (by decide)) (pe _ _ (by decide)) t2.2 (by rw [e9]; exact hd) (by omega) hN.2 (by rw [pe _ _ (by decide)]; exact hc8)
    rw [e9, e6, ← em] at z2
    refine z2.mono (fun o2 ⟨h3, ⟨c2, c3, c4, c5⟩, ⟨b1, b2, b3⟩, ⟨b4, b5⟩, c1, e2⟩ => ⟨h3, by rw [e9] at e2; exact e2, ?_⟩)
    rw [e9] at b3 b4 b5
    have e4 : h2 268 4 = h 268 4 := pe _ _ (by decide)
    rw [e4] at b1 b2
    have q1 := q.rd (h1 := h1) (g1 := hput (hput (hput h 268 13 0) 268 14 0) 268 15 (-1)) (fun x y y1 y2 y3 y4 => p1 x y y1 y2 y3) (p2.trans ((hput_j (by decide)).trans hput_s).symm) (p3.trans hput_s.symm) p4 ((hput_j (by decide)).trans ((hput_j (by decide)).trans hput_s)) (fun y hy => (hput_k (by decide)).trans ((hput_k (by decide)).trans (hput_k (by decide)))) (fun x y y1 => (if_neg (by omega)).trans ((if_neg (by omega)).trans (if_neg (by omega))))
    have e99 : hput (hput (hput h 268 13 0) 268 14 0) 268 15 (-1) 269 = h 269 := funext fun y => (hput_k (by decide)).trans ((hput_k (by decide)).trans (hput_k (by decide)))
    have z3 := q1.ch (h1 := h2) (g1 := h3) (f := (mEx zz.2 zz.2.2.2.2.toNat 0 (h 269)).2) (M := N + 31) (by rw [e99]; exact pc) (by
      rw [e99]
      refine ⟨b4, b1, fun i j i1 j1 => ?_, b3, fun x y y1 => ?_⟩
      · rw [b2 i j i1 j1, pe _ _ (by decide)]
        exact ((hput_k (by decide)).trans ((hput_k (by decide)).trans (hput_k (by decide)))).symm
      · by_cases g : x = 268 ∧ (13 ≤ y ∧ y ≤ 15)
        · rw [g.1]
          rcases (show y = 13 ∨ y = 14 ∨ y = 15 by omega) with g2 | g2 | g2
          · rw [g2, c3]; rfl
          · rw [g2, c4]; rfl
          · rw [g2, c5]; rfl
        · exact (c1 x y (by unfold scr; omega) (by omega) (by omega) (by omega) (by omega) (by omega) (by omega)).trans ((pe x y (by omega)).trans ((if_neg (by omega)).trans ((if_neg (by omega)).trans (if_neg (by omega)))).symm)) (b5.up (by omega)) px (by rw [e99]; exact ps) (by omega)
    exact z3.both (fun x y y1 => c1 x y (by unfold scr; omega) (by omega) (by omega) (by omega) (by omega) (by omega) (by omega)) (fun _ _ _ => rfl)
end A

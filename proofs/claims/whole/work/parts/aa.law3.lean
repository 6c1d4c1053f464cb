/-! the law: each call on both sides -/
section A
variable {K : List AKd} {h : Nat → Nat → Int} {R : R4} {σ : Sg} {r d : Nat} {n N M : Int}
theorem f2_ok : ∀ x : Fin 25, ∀ y : Fin 24, FP.f2d (FP.fdiv (FP.i2f (Int32.ofInt ((x.val : Nat) : Int))) (FP.i2f (Int32.ofInt ((y.val + 1 : Nat) : Int)))) &&& 0x7fffffffffffffff ≤ 0x7ff0000000000000 := by decide +kernel
theorem f2_i {x y : Int} (hx : 0 ≤ x ∧ x ≤ 24) (hy : 1 ≤ y ∧ y ≤ 24) : FP.f2d (FP.fdiv (FP.i2f (Int32.ofInt x)) (FP.i2f (Int32.ofInt y))) &&& 0x7fffffffffffffff ≤ 0x7ff0000000000000 := by
  have z := f2_ok ⟨x.toNat, by omega⟩ ⟨(y - 1).toNat, by omega⟩
  rw [show ((x.toNat : Nat) : Int) = x by omega, show (((y - 1).toNat + 1 : Nat) : Int) = y by omega] at z
  exact z
theorem cov_ok {w : Nat → Int} (v0 : 0 ≤ w 0 ∧ w 0 ≤ 10) (h1 : 1 ≤ w 0) : FP.f2d (covW w) &&& 0x7fffffffffffffff ≤ 0x7ff0000000000000 := by
  have c := cnG_r (w := w) (f := 59) (w 0).toNat 0 0
  exact f2_i (by omega) (by omega)
theorem tcv_ok {w : Nat → Int} (v3 : 0 ≤ w 3 ∧ w 3 ≤ 24) : FP.f2d (tcvW w) &&& 0x7fffffffffffffff ≤ 0x7ff0000000000000 := by
  have c := cnG_r (w := w) (f := 69) (w 3).toNat 0 0
  unfold tcvW
  by_cases z : w 3 = 0
  · rw [if_pos z]
    decide +kernel
  · rw [if_neg z]
    exact f2_i (by omega) (by omega)
theorem op11 {i x : Int} (q : Rel r d N h h) : OpB r d N R (ev 285 0 [AR 1, AI i, AI x, AR 282, AU] [] (KS r d, h, R)) (fun h1 R1 => ev 234 0 [AR 268, AI i, AI x] [] (KS r d, h1, R1)) (fun _ => True) := by
  have hM := q.1
  obtain ⟨-, ⟨hd, hx, -⟩, hn, -, -, -⟩ := id q.1
  obtain ⟨hW, hc, d1, d2, d3, d4⟩ := id hd
  obtain ⟨v0, v1, v2, v3, v4⟩ := hW.1
  have hf := hW.ft
  have hh := hereW_r hc
  have hp := q.2.1.1
  have hc4 := q.2.1.2.1
  have hc8 := q.2.1.2.2.1
  have hcn : 0 ≤ h 34 2 ∧ h 34 2 ≤ 8 := by rw [hc4]; exact hc8
  refine opQ (A := 0 ≤ i ∧ i < (h 269) 0) (c := 1) (v := ltr (h 269) (357 + 7 * i) x) (by decide) (fun hi => wT285 (cE q (s84t hM hi))) (fun hi => wF285_0 (cF q (s84f hM hi))) (fun hi h1 R1 e => rE (s234t (w := h 269) e ⟨v0.1, by omega⟩ v0.2 (hW.2.2.1.1 i hi.1 hi.2) hi)) (fun hi h1 R1 e => rE (s234f (w := h 269) e ⟨v0.1, by omega⟩ hi)) (fun hi => trivial)
theorem op12 {i x : Int} (q : Rel r d N h h) : OpB r d N R (ev 286 0 [AR 1, AI i, AI x, AR 282, AU] [] (KS r d, h, R)) (fun h1 R1 => ev 235 0 [AR 268, AI i, AI x] [] (KS r d, h1, R1)) (fun _ => True) := by
  have hM := q.1
  obtain ⟨-, ⟨hd, hx, -⟩, hn, -, -, -⟩ := id q.1
  obtain ⟨hW, hc, d1, d2, d3, d4⟩ := id hd
  obtain ⟨v0, v1, v2, v3, v4⟩ := hW.1
  have hf := hW.ft
  have hh := hereW_r hc
  have hp := q.2.1.1
  have hc4 := q.2.1.2.1
  have hc8 := q.2.1.2.2.1
  have hcn : 0 ≤ h 34 2 ∧ h 34 2 ≤ 8 := by rw [hc4]; exact hc8
  refine opQ (A := 0 ≤ i ∧ i < (h 269) 1) (c := 1) (v := ltr (h 269) (427 + 7 * i) x) (by decide) (fun hi => wT286 (cE q (s85t hM hi))) (fun hi => wF286_0 (cF q (s85f hM hi))) (fun hi h1 R1 e => rE (s235t (w := h 269) e ⟨v1.1, by omega⟩ v1.2 (hW.2.2.1.2.1 i hi.1 hi.2) hi)) (fun hi h1 R1 e => rE (s235f (w := h 269) e ⟨v1.1, by omega⟩ hi)) (fun hi => trivial)
theorem op13 {i x : Int} (q : Rel r d N h h) : OpB r d N R (ev 287 0 [AR 1, AI i, AI x, AR 282, AU] [] (KS r d, h, R)) (fun h1 R1 => ev 236 0 [AR 268, AI i, AI x] [] (KS r d, h1, R1)) (fun _ => True) := by
  have hM := q.1
  obtain ⟨-, ⟨hd, hx, -⟩, hn, -, -, -⟩ := id q.1
  obtain ⟨hW, hc, d1, d2, d3, d4⟩ := id hd
  obtain ⟨v0, v1, v2, v3, v4⟩ := hW.1
  have hf := hW.ft
  have hh := hereW_r hc
  have hp := q.2.1.1
  have hc4 := q.2.1.2.1
  have hc8 := q.2.1.2.2.1
  have hcn : 0 ≤ h 34 2 ∧ h 34 2 ≤ 8 := by rw [hc4]; exact hc8
  refine opQ (A := 0 ≤ i ∧ i < (h 269) 2) (c := 1) (v := ltr (h 269) (483 + 7 * i) x) (by decide) (fun hi => wT287 (cE q (s86t hM hi))) (fun hi => wF287_0 (cF q (s86f hM hi))) (fun hi h1 R1 e => rE (s236t (w := h 269) e ⟨v2.1, by omega⟩ v2.2 (hW.2.2.1.2.2 i hi.1 hi.2) hi)) (fun hi h1 R1 e => rE (s236f (w := h 269) e ⟨v2.1, by omega⟩ hi)) (fun hi => trivial)
theorem op15 {i : Int} (q : Rel r d N h h) : OpB r d N R (ev 288 0 [AR 1, AI i, AR 282, AU] [] (KS r d, h, R)) (fun h1 R1 => ev 241 0 [AR 268, AI i] [] (KS r d, h1, R1)) (fun _ => True) := by
  have hM := q.1
  obtain ⟨-, ⟨hd, hx, -⟩, hn, -, -, -⟩ := id q.1
  obtain ⟨hW, hc, d1, d2, d3, d4⟩ := id hd
  obtain ⟨v0, v1, v2, v3, v4⟩ := hW.1
  have hf := hW.ft
  have hh := hereW_r hc
  have hp := q.2.1.1
  have hc4 := q.2.1.2.1
  have hc8 := q.2.1.2.2.1
  have hcn : 0 ≤ h 34 2 ∧ h 34 2 ≤ 8 := by rw [hc4]; exact hc8
  refine opQ (A := 0 ≤ i ∧ i < (h 269) 2) (c := 1) (v := (h 269) (6 + i).toNat) (by decide) (fun hi => wT288 (cE q (s88t hM hi))) (fun hi => wF288_0 (cF q (s88f hM hi))) (fun hi h1 R1 e => rE (s241t (w := h 269) e ⟨v2.1, by omega⟩ v2.2 hi)) (fun hi h1 R1 e => rE (s241f (w := h 269) e ⟨v2.1, by omega⟩ hi)) (fun hi => trivial)
theorem op16 {i : Int} (q : Rel r d N h h) : OpB r d N R (ev 289 0 [AR 1, AI i, AR 282, AU] [] (KS r d, h, R)) (fun h1 R1 => ev 242 0 [AR 268, AI i] [] (KS r d, h1, R1)) (fun _ => True) := by
  have hM := q.1
  obtain ⟨-, ⟨hd, hx, -⟩, hn, -, -, -⟩ := id q.1
  obtain ⟨hW, hc, d1, d2, d3, d4⟩ := id hd
  obtain ⟨v0, v1, v2, v3, v4⟩ := hW.1
  have hf := hW.ft
  have hh := hereW_r hc
  have hp := q.2.1.1
  have hc4 := q.2.1.2.1
  have hc8 := q.2.1.2.2.1
  have hcn : 0 ≤ h 34 2 ∧ h 34 2 ≤ 8 := by rw [hc4]; exact hc8
  refine opQ (A := 0 ≤ i ∧ i < (h 269) 2) (c := 1) (v := (h 269) (9 + i).toNat) (by decide) (fun hi => wT289 (cE q (s89t hM hi))) (fun hi => wF289_0 (cF q (s89f hM hi))) (fun hi h1 R1 e => rE (s242t (w := h 269) e ⟨v2.1, by omega⟩ v2.2 hi)) (fun hi h1 R1 e => rE (s242f (w := h 269) e ⟨v2.1, by omega⟩ hi)) (fun hi => trivial)
theorem op17 {i : Int} (q : Rel r d N h h) : OpB r d N R (ev 290 0 [AR 1, AI i, AR 282, AU] [] (KS r d, h, R)) (fun h1 R1 => ev 237 0 [AR 268, AI i] [] (KS r d, h1, R1)) (fun _ => True) := by
  have hM := q.1
  obtain ⟨-, ⟨hd, hx, -⟩, hn, -, -, -⟩ := id q.1
  obtain ⟨hW, hc, d1, d2, d3, d4⟩ := id hd
  obtain ⟨v0, v1, v2, v3, v4⟩ := hW.1
  have hf := hW.ft
  have hh := hereW_r hc
  have hp := q.2.1.1
  have hc4 := q.2.1.2.1
  have hc8 := q.2.1.2.2.1
  have hcn : 0 ≤ h 34 2 ∧ h 34 2 ≤ 8 := by rw [hc4]; exact hc8
  refine opQ (A := 0 ≤ i ∧ i < (h 269) 3) (c := 1) (v := tr (h 269) i 0) (by decide) (fun hi => wT290 (cE q (s90t hM hi))) (fun hi => wF290_0 (cF q (s90f hM hi))) (fun hi h1 R1 e => rE (s237t (w := h 269) e v3 hi)) (fun hi h1 R1 e => rE (s237f (w := h 269) e v3 hi)) (fun hi => trivial)
theorem op18 {i : Int} (q : Rel r d N h h) : OpB r d N R (ev 291 0 [AR 1, AI i, AR 282, AU] [] (KS r d, h, R)) (fun h1 R1 => ev 238 0 [AR 268, AI i] [] (KS r d, h1, R1)) (fun _ => True) := by
  have hM := q.1
  obtain ⟨-, ⟨hd, hx, -⟩, hn, -, -, -⟩ := id q.1
  obtain ⟨hW, hc, d1, d2, d3, d4⟩ := id hd
  obtain ⟨v0, v1, v2, v3, v4⟩ := hW.1
  have hf := hW.ft
  have hh := hereW_r hc
  have hp := q.2.1.1
  have hc4 := q.2.1.2.1
  have hc8 := q.2.1.2.2.1
  have hcn : 0 ≤ h 34 2 ∧ h 34 2 ≤ 8 := by rw [hc4]; exact hc8
  refine opQ (A := 0 ≤ i ∧ i < (h 269) 3) (c := 1) (v := tr (h 269) i 1) (by decide) (fun hi => wT291 (cE q (s91t hM hi))) (fun hi => wF291_0 (cF q (s91f hM hi))) (fun hi h1 R1 e => rE (s238t (w := h 269) e v3 hi)) (fun hi h1 R1 e => rE (s238f (w := h 269) e v3 hi)) (fun hi => trivial)
theorem op19 {i : Int} (q : Rel r d N h h) : OpB r d N R (ev 292 0 [AR 1, AI i, AR 282, AU] [] (KS r d, h, R)) (fun h1 R1 => ev 239 0 [AR 268, AI i] [] (KS r d, h1, R1)) (fun _ => True) := by
  have hM := q.1
  obtain ⟨-, ⟨hd, hx, -⟩, hn, -, -, -⟩ := id q.1
  obtain ⟨hW, hc, d1, d2, d3, d4⟩ := id hd
  obtain ⟨v0, v1, v2, v3, v4⟩ := hW.1
  have hf := hW.ft
  have hh := hereW_r hc
  have hp := q.2.1.1
  have hc4 := q.2.1.2.1
  have hc8 := q.2.1.2.2.1
  have hcn : 0 ≤ h 34 2 ∧ h 34 2 ≤ 8 := by rw [hc4]; exact hc8
  refine opQ (A := 0 ≤ i ∧ i < (h 269) 3) (c := 1) (v := tr (h 269) i 2) (by decide) (fun hi => wT292 (cE q (s92t hM hi))) (fun hi => wF292_0 (cF q (s92f hM hi))) (fun hi h1 R1 e => rE (s239t (w := h 269) e v3 hi)) (fun hi h1 R1 e => rE (s239f (w := h 269) e v3 hi)) (fun hi => trivial)
theorem op22 {i : Int} (q : Rel r d N h h) : OpB r d N R (ev 295 0 [AR 1, AI i, AR 282, AU] [] (KS r d, h, R)) (fun h1 R1 => ev 245 0 [AR 268, AI i] [] (KS r d, h1, R1)) (fun _ => True) := by
  have hM := q.1
  obtain ⟨-, ⟨hd, hx, -⟩, hn, -, -, -⟩ := id q.1
  obtain ⟨hW, hc, d1, d2, d3, d4⟩ := id hd
  obtain ⟨v0, v1, v2, v3, v4⟩ := hW.1
  have hf := hW.ft
  have hh := hereW_r hc
  have hp := q.2.1.1
  have hc4 := q.2.1.2.1
  have hc8 := q.2.1.2.2.1
  have hcn : 0 ≤ h 34 2 ∧ h 34 2 ≤ 8 := by rw [hc4]; exact hc8
  refine opQ (A := 0 ≤ i ∧ i < (h 269) 4) (c := 1) (v := iv (h 269) i 0) (by decide) (fun hi => wT295 (cE q (s95t hM hi))) (fun hi => wF295_0 (cF q (s95f hM hi))) (fun hi h1 R1 e => rE (s245t (w := h 269) e ⟨v4.1, by omega⟩ v4.2 hi)) (fun hi h1 R1 e => rE (s245f (w := h 269) e ⟨v4.1, by omega⟩ hi)) (fun hi => trivial)
theorem op28 {i : Int} (q : Rel r d N h h) : OpB r d N R (ev 300 0 [AR 1, AI i, AR 282, AU] [] (KS r d, h, R)) (fun h1 R1 => ev 240 0 [AR 268, AI i] [] (KS r d, h1, R1)) (fun _ => True) := by
  have hM := q.1
  obtain ⟨-, ⟨hd, hx, -⟩, hn, -, -, -⟩ := id q.1
  obtain ⟨hW, hc, d1, d2, d3, d4⟩ := id hd
  obtain ⟨v0, v1, v2, v3, v4⟩ := hW.1
  have hf := hW.ft
  have hh := hereW_r hc
  have hp := q.2.1.1
  have hc4 := q.2.1.2.1
  have hc8 := q.2.1.2.2.1
  have hcn : 0 ≤ h 34 2 ∧ h 34 2 ≤ 8 := by rw [hc4]; exact hc8
  refine opQ (A := 0 ≤ i ∧ i < (h 269) 3) (c := 1) (v := (h 269) (69 + i).toNat) (by decide) (fun hi => wT300 (cE q (s101t hM hi))) (fun hi => wF300_0 (cF q (s101f hM hi))) (fun hi h1 R1 e => rE (s240t (w := h 269) e v3 v3.2 hi)) (fun hi h1 R1 e => rE (s240f (w := h 269) e v3 hi)) (fun hi => trivial)
theorem op29 {i : Int} (q : Rel r d N h h) : OpB r d N R (ev 301 0 [AR 1, AI i, AR 282, AU] [] (KS r d, h, R)) (fun h1 R1 => ev 251 0 [AR 268, AI i] [] (KS r d, h1, R1)) (fun _ => True) := by
  have hM := q.1
  obtain ⟨-, ⟨hd, hx, -⟩, hn, -, -, -⟩ := id q.1
  obtain ⟨hW, hc, d1, d2, d3, d4⟩ := id hd
  obtain ⟨v0, v1, v2, v3, v4⟩ := hW.1
  have hf := hW.ft
  have hh := hereW_r hc
  have hp := q.2.1.1
  have hc4 := q.2.1.2.1
  have hc8 := q.2.1.2.2.1
  have hcn : 0 ≤ h 34 2 ∧ h 34 2 ≤ 8 := by rw [hc4]; exact hc8
  refine opQ (A := 0 ≤ i ∧ i < (h 269) 0) (c := 1) (v := (h 269) (59 + i).toNat) (by decide) (fun hi => wT301 (cE q (s102t hM hi))) (fun hi => wF301_0 (cF q (s102f hM hi))) (fun hi h1 R1 e => rE (s251t (w := h 269) e ⟨v0.1, by omega⟩ v0.2 hi)) (fun hi h1 R1 e => rE (s251f (w := h 269) e ⟨v0.1, by omega⟩ hi)) (fun hi => trivial)
theorem op20 {i : Int} (q : Rel r d N h h) : OpB r d N R (ev 293 0 [AR 1, AI i, AR 282, AU] [] (KS r d, h, R)) (fun h1 R1 => ev 243 0 [AR 268, AI i] [] (KS r d, h1, R1)) (fun y => y = 0 ∨ y = 1) := by
  have hM := q.1
  obtain ⟨-, ⟨hd, hx, -⟩, hn, -, -, -⟩ := id q.1
  obtain ⟨hW, hc, d1, d2, d3, d4⟩ := id hd
  obtain ⟨v0, v1, v2, v3, v4⟩ := hW.1
  have hf := hW.ft
  have hh := hereW_r hc
  have hp := q.2.1.1
  have hc4 := q.2.1.2.1
  have hc8 := q.2.1.2.2.1
  have hcn : 0 ≤ h 34 2 ∧ h 34 2 ≤ 8 := by rw [hc4]; exact hc8
  refine opQ (A := 0 ≤ i ∧ i < (h 269) 3) (c := 1) (v := b2i (tr (h 269) i 3 ≠ -1)) (by decide) (fun hi => wT293 (b2i_01 _) (cE q (s93t hM hi))) (fun hi => wF293_0 (cF q (s93f hM hi))) (fun hi h1 R1 e => rE (s243t (w := h 269) e v3 hi)) (fun hi h1 R1 e => rE (s243f (w := h 269) e v3 hi)) (fun hi => b2i_01 _)
theorem op21 {i : Int} (q : Rel r d N h h) : OpB r d N R (ev 294 0 [AR 1, AI i, AR 282, AU] [] (KS r d, h, R)) (fun h1 R1 => ev 244 0 [AR 268, AI i] [] (KS r d, h1, R1)) (fun y => y = 0 ∨ y = 1) := by
  have hM := q.1
  obtain ⟨-, ⟨hd, hx, -⟩, hn, -, -, -⟩ := id q.1
  obtain ⟨hW, hc, d1, d2, d3, d4⟩ := id hd
  obtain ⟨v0, v1, v2, v3, v4⟩ := hW.1
  have hf := hW.ft
  have hh := hereW_r hc
  have hp := q.2.1.1
  have hc4 := q.2.1.2.1
  have hc8 := q.2.1.2.2.1
  have hcn : 0 ≤ h 34 2 ∧ h 34 2 ≤ 8 := by rw [hc4]; exact hc8
  refine opQ (A := 0 ≤ i ∧ i < (h 269) 3) (c := 1) (v := b2i (gdB (h 269) i (hereW (h 269)) = true)) (by decide) (fun hi => wT294 (b2i_01 _) (cE q (s94t hM hi))) (fun hi => wF294_0 (cF q (s94f hM hi))) (fun hi h1 R1 e => rE (s244t (w := h 269) e v3 hc hi)) (fun hi h1 R1 e => rE (s244f (w := h 269) e v3 hi)) (fun hi => b2i_01 _)
theorem op23 {i : Int} (q : Rel r d N h h) : OpB r d N R (ev 296 0 [AR 1, AI i, AR 282, AU] [] (KS r d, h, R)) (fun h1 R1 => ev 246 0 [AR 268, AI i] [] (KS r d, h1, R1)) (fun y => y = 0 ∨ y = 1) := by
  have hM := q.1
  obtain ⟨-, ⟨hd, hx, -⟩, hn, -, -, -⟩ := id q.1
  obtain ⟨hW, hc, d1, d2, d3, d4⟩ := id hd
  obtain ⟨v0, v1, v2, v3, v4⟩ := hW.1
  have hf := hW.ft
  have hh := hereW_r hc
  have hp := q.2.1.1
  have hc4 := q.2.1.2.1
  have hc8 := q.2.1.2.2.1
  have hcn : 0 ≤ h 34 2 ∧ h 34 2 ≤ 8 := by rw [hc4]; exact hc8
  refine opQ (A := 0 ≤ i ∧ i < (h 269) 4) (c := 1) (v := b2i (cmpB (vIn (hereW (h 269)) (iv (h 269) i 1)) (iv (h 269) i 2) (iv (h 269) i 3) = true)) (by decide) (fun hi => wT296 (b2i_01 _) (cE q (s96t hM hi))) (fun hi => wF296_0 (cF q (s96f hM hi))) (fun hi h1 R1 e => rE (s246t (w := h 269) e ⟨v4.1, by omega⟩ v4.2 hc hi)) (fun hi h1 R1 e => rE (s246f (w := h 269) e ⟨v4.1, by omega⟩ hi)) (fun hi => b2i_01 _)
theorem op24 {i : Int} (q : Rel r d N h h) : OpB r d N R (ev 297 0 [AR 1, AI i, AR 282, AU] [] (KS r d, h, R)) (fun h1 R1 => ev 247 0 [AR 268, AI i] [] (KS r d, h1, R1)) (fun _ => True) := by
  have hM := q.1
  obtain ⟨-, ⟨hd, hx, -⟩, hn, -, -, -⟩ := id q.1
  obtain ⟨hW, hc, d1, d2, d3, d4⟩ := id hd
  obtain ⟨v0, v1, v2, v3, v4⟩ := hW.1
  have hf := hW.ft
  have hh := hereW_r hc
  have hp := q.2.1.1
  have hc4 := q.2.1.2.1
  have hc8 := q.2.1.2.2.1
  have hcn : 0 ≤ h 34 2 ∧ h 34 2 ≤ 8 := by rw [hc4]; exact hc8
  refine opQ (A := 0 ≤ i ∧ i < (h 269) 1) (c := 1) (v := (vdt (h 269) (hereW (h 269)) i).1) (by decide) (fun hi => wT297 (cS q (s97t hM hi))) (fun hi => wF297_0 (cF q (s97f hM hi))) (fun hi h1 R1 e => rQ (s247t (w := h 269) e v1 hf hc hi)) (fun hi h1 R1 e => rE (s247f (w := h 269) e v1 hi)) (fun hi => trivial)
theorem op25 {i : Int} (q : Rel r d N h h) : OpB r d N R (ev 298 0 [AR 1, AI i, AR 282, AU] [] (KS r d, h, R)) (fun h1 R1 => ev 248 0 [AR 268, AI i, AU] [] (KS r d, h1, R1)) (fun _ => True) := by
  have hM := q.1
  obtain ⟨-, ⟨hd, hx, -⟩, hn, -, -, -⟩ := id q.1
  obtain ⟨hW, hc, d1, d2, d3, d4⟩ := id hd
  obtain ⟨v0, v1, v2, v3, v4⟩ := hW.1
  have hf := hW.ft
  have hh := hereW_r hc
  have hp := q.2.1.1
  have hc4 := q.2.1.2.1
  have hc8 := q.2.1.2.2.1
  have hcn : 0 ≤ h 34 2 ∧ h 34 2 ≤ 8 := by rw [hc4]; exact hc8
  refine opQ (A := 0 ≤ i ∧ i < (h 269) 1) (c := 1) (v := (vdt (h 269) (hereW (h 269)) i).2.1) (by decide) (fun hi => wT298 (cS q (s98t hM hi))) (fun hi => wF298_0 (cF q (s98f hM hi))) (fun hi h1 R1 e => rQ (s248t (w := h 269) e v1 hf hc hi)) (fun hi h1 R1 e => rE (s248f (w := h 269) e v1 hi)) (fun hi => trivial)
theorem op26 {i : Int} (q : Rel r d N h h) : OpB r d N R (ev 299 0 [AR 1, AI i, AR 282, AU] [] (KS r d, h, R)) (fun h1 R1 => ev 249 0 [AR 268, AI i] [] (KS r d, h1, R1)) (fun _ => True) := by
  have hM := q.1
  obtain ⟨-, ⟨hd, hx, -⟩, hn, -, -, -⟩ := id q.1
  obtain ⟨hW, hc, d1, d2, d3, d4⟩ := id hd
  obtain ⟨v0, v1, v2, v3, v4⟩ := hW.1
  have hf := hW.ft
  have hh := hereW_r hc
  have hp := q.2.1.1
  have hc4 := q.2.1.2.1
  have hc8 := q.2.1.2.2.1
  have hcn : 0 ≤ h 34 2 ∧ h 34 2 ≤ 8 := by rw [hc4]; exact hc8
  refine opQ (A := 0 ≤ i ∧ i < (h 269) 1) (c := 1) (v := if (vdt (h 269) (hereW (h 269)) i).1 = 4 then fb (h 269) (vdt (h 269) (hereW (h 269)) i).2.2 else -1) (by decide) (fun hi => wT299 (cS q (s99t hM hi))) (fun hi => wF299_0 (cF q (s99f hM hi))) (fun hi h1 R1 e => rQ (s249t (w := h 269) e v1 hf hc hi)) (fun hi h1 R1 e => rE (s249f (w := h 269) e v1 hi)) (fun hi => trivial)
theorem op32 {i : Int} (q : Rel r d N h h) : OpB r d N R (ev 302 0 [AR 1, AI i, AR 282, AU] [] (KS r d, h, R)) (fun h1 R1 => ev 252 0 [AR 268, AI i] [] (KS r d, h1, R1)) (fun _ => True) := by
  have hM := q.1
  obtain ⟨-, ⟨hd, hx, -⟩, hn, -, -, -⟩ := id q.1
  obtain ⟨hW, hc, d1, d2, d3, d4⟩ := id hd
  obtain ⟨v0, v1, v2, v3, v4⟩ := hW.1
  have hf := hW.ft
  have hh := hereW_r hc
  have hp := q.2.1.1
  have hc4 := q.2.1.2.1
  have hc8 := q.2.1.2.2.1
  have hcn : 0 ≤ h 34 2 ∧ h 34 2 ≤ 8 := by rw [hc4]; exact hc8
  refine opQ (A := 1 ≤ i ∧ i ≤ 4) (c := 1) (v := (h 269) (12 + i).toNat) (by decide) (fun hi => wT302 (cE q (s105t hM hi))) (fun hi => wF302_1 (cF q (s105f hi))) (fun hi h1 R1 e => rE (s252t (w := h 269) e hi)) (fun hi h1 R1 e => rE (s252f hi)) (fun hi => trivial)
theorem op41 {i : Int} (q : Rel r d N h h) : OpB r d N R (ev 303 0 [AR 1, AI i, AR 282, AU] [] (KS r d, h, R)) (fun h1 R1 => ev 262 0 [AR 268, AI i] [] (KS r d, h1, R1)) (fun y => y = 0 ∨ y = 1) := by
  have hM := q.1
  obtain ⟨-, ⟨hd, hx, -⟩, hn, -, -, -⟩ := id q.1
  obtain ⟨hW, hc, d1, d2, d3, d4⟩ := id hd
  obtain ⟨v0, v1, v2, v3, v4⟩ := hW.1
  have hf := hW.ft
  have hh := hereW_r hc
  have hp := q.2.1.1
  have hc4 := q.2.1.2.1
  have hc8 := q.2.1.2.2.1
  have hcn : 0 ≤ h 34 2 ∧ h 34 2 ≤ 8 := by rw [hc4]; exact hc8
  refine opQ (A := 0 ≤ i ∧ i < (h 269) 0) (c := 1) (v := b2i (stp (h 269) (hereW (h 269)) i ≠ -1)) (by decide) (fun hi => wT303 (b2i_01 _) (cSe q (s114t hM hi))) (fun hi => wF303_0 (cF q (s114f hM hi))) (fun hi h1 R1 e => rQ (s262 (w := h 269) e v1 hf hc v0 hi)) (fun hi h1 R1 e => rE (s262f (w := h 269) e v0 hi)) (fun hi => b2i_01 _)
theorem op42 {i : Int} (q : Rel r d N h h) : OpB r d N R (ev 304 0 [AR 1, AI i, AR 282, AU] [] (KS r d, h, R)) (fun h1 R1 => ev 263 0 [AR 268, AI i, AU] [] (KS r d, h1, R1)) (fun y => y = 0 ∨ y = 1) := by
  have hM := q.1
  obtain ⟨-, ⟨hd, hx, -⟩, hn, -, -, -⟩ := id q.1
  obtain ⟨hW, hc, d1, d2, d3, d4⟩ := id hd
  obtain ⟨v0, v1, v2, v3, v4⟩ := hW.1
  have hf := hW.ft
  have hh := hereW_r hc
  have hp := q.2.1.1
  have hc4 := q.2.1.2.1
  have hc8 := q.2.1.2.2.1
  have hcn : 0 ≤ h 34 2 ∧ h 34 2 ≤ 8 := by rw [hc4]; exact hc8
  refine opQ (A := 0 ≤ i ∧ i < (h 269) 3) (c := 1) (v := b2i (ctk (h 269) (bfs (h 269) (hereW (h 269))) i)) (by decide) (fun hi => wT304 (b2i_01 _) (cSe q (s115t hM hi))) (fun hi => wF304_0 (cF q (s115f hM hi))) (fun hi h1 R1 e => rQ (s263 (w := h 269) e v1 hf hc hi)) (fun hi h1 R1 e => rE (s263f (w := h 269) e v3 hi)) (fun hi => b2i_01 _)
theorem op43 {i : Int} (q : Rel r d N h h) : OpB r d N R (ev 305 0 [AR 1, AI i, AR 282, AU] [] (KS r d, h, R)) (fun h1 R1 => ev 264 0 [AR 268, AI i] [] (KS r d, h1, R1)) (fun _ => True) := by
  have hM := q.1
  obtain ⟨-, ⟨hd, hx, -⟩, hn, -, -, -⟩ := id q.1
  obtain ⟨hW, hc, d1, d2, d3, d4⟩ := id hd
  obtain ⟨v0, v1, v2, v3, v4⟩ := hW.1
  have hf := hW.ft
  have hh := hereW_r hc
  have hp := q.2.1.1
  have hc4 := q.2.1.2.1
  have hc8 := q.2.1.2.2.1
  have hcn : 0 ≤ h 34 2 ∧ h 34 2 ≤ 8 := by rw [hc4]; exact hc8
  refine opQ (A := 0 ≤ i ∧ i < (h 269) 0) (c := 1) (v := stp (h 269) (hereW (h 269)) i) (by decide) (fun hi => wT305 (cSe q (s116t hM hi))) (fun hi => wF305_0 (cF q (s116f hM hi))) (fun hi h1 R1 e => rQ (s264 (w := h 269) e v1 hf hc v0 hi)) (fun hi h1 R1 e => rE (s264f (w := h 269) e v0 hi)) (fun hi => trivial)
theorem op44 {i : Int} (q : Rel r d N h h) : OpB r d N R (ev 306 0 [AR 1, AI i, AR 282, AU] [] (KS r d, h, R)) (fun h1 R1 => ev 265 0 [AR 268, AI i, AU, AU] [] (KS r d, h1, R1)) (fun _ => True) := by
  have hM := q.1
  obtain ⟨-, ⟨hd, hx, -⟩, hn, -, -, -⟩ := id q.1
  obtain ⟨hW, hc, d1, d2, d3, d4⟩ := id hd
  obtain ⟨v0, v1, v2, v3, v4⟩ := hW.1
  have hf := hW.ft
  have hh := hereW_r hc
  have hp := q.2.1.1
  have hc4 := q.2.1.2.1
  have hc8 := q.2.1.2.2.1
  have hcn : 0 ≤ h 34 2 ∧ h 34 2 ≤ 8 := by rw [hc4]; exact hc8
  refine opQ (A := 0 ≤ i ∧ i < (h 269) 0) (c := 1) (v := fev (h 269) (hereW (h 269)) i) (by decide) (fun hi => wT306 (cSe q (s117t hM hi))) (fun hi => wF306_0 (cF q (s117f hM hi))) (fun hi h1 R1 e => rQ (s265 (w := h 269) e v1 hf hc v0 hi)) (fun hi h1 R1 e => rE (s265f (w := h 269) e v0 hi)) (fun hi => trivial)
theorem op6 (q : Rel r d N h h) : OpA AInt N R (ev 79 0 [AR 1] [] (KS r d, h, R)) (fun r1 d1 h1 => ev 223 0 [AR 268] [] (KS r1 d1, h1, R)) := by
  have hM := q.1
  obtain ⟨-, ⟨hd, hx, -⟩, hn, -, -, -⟩ := id q.1
  obtain ⟨hW, hc, d1, d2, d3, d4⟩ := id hd
  obtain ⟨v0, v1, v2, v3, v4⟩ := hW.1
  have hf := hW.ft
  have hh := hereW_r hc
  have hp := q.2.1.1
  have hc4 := q.2.1.2.1
  have hc8 := q.2.1.2.2.1
  have hcn : 0 ≤ h 34 2 ∧ h 34 2 ≤ 8 := by rw [hc4]; exact hc8
  exact opQA (cE q (s79 hM)) (fun h1 e eg => rE (s223 (w := h 269) e)) (⟨_, rfl⟩)
theorem op7 (q : Rel r d N h h) : OpA AInt N R (ev 80 0 [AR 1] [] (KS r d, h, R)) (fun r1 d1 h1 => ev 224 0 [AR 268] [] (KS r1 d1, h1, R)) := by
  have hM := q.1
  obtain ⟨-, ⟨hd, hx, -⟩, hn, -, -, -⟩ := id q.1
  obtain ⟨hW, hc, d1, d2, d3, d4⟩ := id hd
  obtain ⟨v0, v1, v2, v3, v4⟩ := hW.1
  have hf := hW.ft
  have hh := hereW_r hc
  have hp := q.2.1.1
  have hc4 := q.2.1.2.1
  have hc8 := q.2.1.2.2.1
  have hcn : 0 ≤ h 34 2 ∧ h 34 2 ≤ 8 := by rw [hc4]; exact hc8
  exact opQA (cE q (s80 hM)) (fun h1 e eg => rE (s224 (w := h 269) e)) (⟨_, rfl⟩)
theorem op8 (q : Rel r d N h h) : OpA AInt N R (ev 81 0 [AR 1] [] (KS r d, h, R)) (fun r1 d1 h1 => ev 225 0 [AR 268] [] (KS r1 d1, h1, R)) := by
  have hM := q.1
  obtain ⟨-, ⟨hd, hx, -⟩, hn, -, -, -⟩ := id q.1
  obtain ⟨hW, hc, d1, d2, d3, d4⟩ := id hd
  obtain ⟨v0, v1, v2, v3, v4⟩ := hW.1
  have hf := hW.ft
  have hh := hereW_r hc
  have hp := q.2.1.1
  have hc4 := q.2.1.2.1
  have hc8 := q.2.1.2.2.1
  have hcn : 0 ≤ h 34 2 ∧ h 34 2 ≤ 8 := by rw [hc4]; exact hc8
  exact opQA (cE q (s81 hM)) (fun h1 e eg => rE (s225 (w := h 269) e)) (⟨_, rfl⟩)
theorem op9 (q : Rel r d N h h) : OpA AInt N R (ev 82 0 [AR 1] [] (KS r d, h, R)) (fun r1 d1 h1 => ev 226 0 [AR 268] [] (KS r1 d1, h1, R)) := by
  have hM := q.1
  obtain ⟨-, ⟨hd, hx, -⟩, hn, -, -, -⟩ := id q.1
  obtain ⟨hW, hc, d1, d2, d3, d4⟩ := id hd
  obtain ⟨v0, v1, v2, v3, v4⟩ := hW.1
  have hf := hW.ft
  have hh := hereW_r hc
  have hp := q.2.1.1
  have hc4 := q.2.1.2.1
  have hc8 := q.2.1.2.2.1
  have hcn : 0 ≤ h 34 2 ∧ h 34 2 ≤ 8 := by rw [hc4]; exact hc8
  exact opQA (cE q (s82 hM)) (fun h1 e eg => rE (s226 (w := h 269) e)) (⟨_, rfl⟩)
theorem op10 (q : Rel r d N h h) : OpA AInt N R (ev 83 0 [AR 1] [] (KS r d, h, R)) (fun r1 d1 h1 => ev 227 0 [AR 268] [] (KS r1 d1, h1, R)) := by
  have hM := q.1
  obtain ⟨-, ⟨hd, hx, -⟩, hn, -, -, -⟩ := id q.1
  obtain ⟨hW, hc, d1, d2, d3, d4⟩ := id hd
  obtain ⟨v0, v1, v2, v3, v4⟩ := hW.1
  have hf := hW.ft
  have hh := hereW_r hc
  have hp := q.2.1.1
  have hc4 := q.2.1.2.1
  have hc8 := q.2.1.2.2.1
  have hcn : 0 ≤ h 34 2 ∧ h 34 2 ≤ 8 := by rw [hc4]; exact hc8
  exact opQA (cE q (s83 hM)) (fun h1 e eg => rE (s227 (w := h 269) e)) (⟨_, rfl⟩)
theorem op14 (q : Rel r d N h h) : OpA AInt N R (ev 87 0 [AR 1] [] (KS r d, h, R)) (fun r1 d1 h1 => ev 228 0 [AR 268] [] (KS r1 d1, h1, R)) := by
  have hM := q.1
  obtain ⟨-, ⟨hd, hx, -⟩, hn, -, -, -⟩ := id q.1
  obtain ⟨hW, hc, d1, d2, d3, d4⟩ := id hd
  obtain ⟨v0, v1, v2, v3, v4⟩ := hW.1
  have hf := hW.ft
  have hh := hereW_r hc
  have hp := q.2.1.1
  have hc4 := q.2.1.2.1
  have hc8 := q.2.1.2.2.1
  have hcn : 0 ≤ h 34 2 ∧ h 34 2 ≤ 8 := by rw [hc4]; exact hc8
  exact opQA (cE q (s87 hM)) (fun h1 e eg => rE (s228 (w := h 269) e)) (⟨_, rfl⟩)
theorem op30 (q : Rel r d N h h) : OpA AInt N R (ev 103 0 [AR 1] [] (KS r d, h, R)) (fun r1 d1 h1 => ev 229 0 [AR 268] [] (KS r1 d1, h1, R)) := by
  have hM := q.1
  obtain ⟨-, ⟨hd, hx, -⟩, hn, -, -, -⟩ := id q.1
  obtain ⟨hW, hc, d1, d2, d3, d4⟩ := id hd
  obtain ⟨v0, v1, v2, v3, v4⟩ := hW.1
  have hf := hW.ft
  have hh := hereW_r hc
  have hp := q.2.1.1
  have hc4 := q.2.1.2.1
  have hc8 := q.2.1.2.2.1
  have hcn : 0 ≤ h 34 2 ∧ h 34 2 ≤ 8 := by rw [hc4]; exact hc8
  exact opQA (cE q (s103 hM)) (fun h1 e eg => rE (s229 (w := h 269) e)) (⟨_, rfl⟩)
theorem op31 (q : Rel r d N h h) : OpA AInt N R (ev 104 0 [AR 1] [] (KS r d, h, R)) (fun r1 d1 h1 => ev 230 0 [AR 268] [] (KS r1 d1, h1, R)) := by
  have hM := q.1
  obtain ⟨-, ⟨hd, hx, -⟩, hn, -, -, -⟩ := id q.1
  obtain ⟨hW, hc, d1, d2, d3, d4⟩ := id hd
  obtain ⟨v0, v1, v2, v3, v4⟩ := hW.1
  have hf := hW.ft
  have hh := hereW_r hc
  have hp := q.2.1.1
  have hc4 := q.2.1.2.1
  have hc8 := q.2.1.2.2.1
  have hcn : 0 ≤ h 34 2 ∧ h 34 2 ≤ 8 := by rw [hc4]; exact hc8
  exact opQA (cE q (s104 hM)) (fun h1 e eg => rE (s230 (w := h 269) e)) (⟨_, rfl⟩)
theorem op37 (q : Rel r d N h h) : OpA AInt N R (ev 110 0 [AR 1] [] (KS r d, h, R)) (fun r1 d1 h1 => ev 231 0 [AR 268] [] (KS r1 d1, h1, R)) := by
  have hM := q.1
  obtain ⟨-, ⟨hd, hx, -⟩, hn, -, -, -⟩ := id q.1
  obtain ⟨hW, hc, d1, d2, d3, d4⟩ := id hd
  obtain ⟨v0, v1, v2, v3, v4⟩ := hW.1
  have hf := hW.ft
  have hh := hereW_r hc
  have hp := q.2.1.1
  have hc4 := q.2.1.2.1
  have hc8 := q.2.1.2.2.1
  have hcn : 0 ≤ h 34 2 ∧ h 34 2 ≤ 8 := by rw [hc4]; exact hc8
  exact opQA (cE q (s110 hM)) (fun h1 e eg => rE (s231 (w := h 269) e)) (⟨_, rfl⟩)
theorem op27 (q : Rel r d N h h) : OpA AInt N R (ev 100 0 [AR 1, AU] [] (KS r d, h, R)) (fun r1 d1 h1 => ev 250 0 [AR 268] [] (KS r1 d1, h1, R)) := by
  have hM := q.1
  obtain ⟨-, ⟨hd, hx, -⟩, hn, -, -, -⟩ := id q.1
  obtain ⟨hW, hc, d1, d2, d3, d4⟩ := id hd
  obtain ⟨v0, v1, v2, v3, v4⟩ := hW.1
  have hf := hW.ft
  have hh := hereW_r hc
  have hp := q.2.1.1
  have hc4 := q.2.1.2.1
  have hc8 := q.2.1.2.2.1
  have hcn : 0 ≤ h 34 2 ∧ h 34 2 ≤ 8 := by rw [hc4]; exact hc8
  exact opQA (cS q (s100 hM)) (fun h1 e eg => rQ (s250 (w := h 269) e v1 hf hc)) (⟨_, rfl⟩)
theorem op33 (q : Rel r d N h h) : OpA AFlt N R (ev 106 0 [AR 1, AU] [] (KS r d, h, R)) (fun r1 d1 h1 => ev 255 0 [AR 268] [] (KS r1 d1, h1, R)) := by
  have hM := q.1
  obtain ⟨-, ⟨hd, hx, -⟩, hn, -, -, -⟩ := id q.1
  obtain ⟨hW, hc, d1, d2, d3, d4⟩ := id hd
  obtain ⟨v0, v1, v2, v3, v4⟩ := hW.1
  have hf := hW.ft
  have hh := hereW_r hc
  have hp := q.2.1.1
  have hc4 := q.2.1.2.1
  have hc8 := q.2.1.2.2.1
  have hcn : 0 ≤ h 34 2 ∧ h 34 2 ≤ 8 := by rw [hc4]; exact hc8
  exact opQA (cE q (s106 hM)) (fun h1 e eg => rE (s255 (w := h 269) e hW.1 hn.1)) (⟨_, rfl, cov_ok v0 hn.1⟩)
theorem op34 (q : Rel r d N h h) : OpA AFlt N R (ev 107 0 [AR 1, AU] [] (KS r d, h, R)) (fun r1 d1 h1 => ev 256 0 [AR 268] [] (KS r1 d1, h1, R)) := by
  have hM := q.1
  obtain ⟨-, ⟨hd, hx, -⟩, hn, -, -, -⟩ := id q.1
  obtain ⟨hW, hc, d1, d2, d3, d4⟩ := id hd
  obtain ⟨v0, v1, v2, v3, v4⟩ := hW.1
  have hf := hW.ft
  have hh := hereW_r hc
  have hp := q.2.1.1
  have hc4 := q.2.1.2.1
  have hc8 := q.2.1.2.2.1
  have hcn : 0 ≤ h 34 2 ∧ h 34 2 ≤ 8 := by rw [hc4]; exact hc8
  exact opQA (cE q (s107 hM)) (fun h1 e eg => rE (s256 (w := h 269) e hW.1)) (⟨_, rfl, tcv_ok v3⟩)
theorem op35 (q : Rel r d N h h) : OpA AInt N R (ev 108 0 [AR 1, AU] [] (KS r d, h, R)) (fun r1 d1 h1 => ev 257 0 [AR 268, AU] [] (KS r1 d1, h1, R)) := by
  have hM := q.1
  obtain ⟨-, ⟨hd, hx, -⟩, hn, -, -, -⟩ := id q.1
  obtain ⟨hW, hc, d1, d2, d3, d4⟩ := id hd
  obtain ⟨v0, v1, v2, v3, v4⟩ := hW.1
  have hf := hW.ft
  have hh := hereW_r hc
  have hp := q.2.1.1
  have hc4 := q.2.1.2.1
  have hc8 := q.2.1.2.2.1
  have hcn : 0 ≤ h 34 2 ∧ h 34 2 ≤ 8 := by rw [hc4]; exact hc8
  exact opQA (cE q (s108 hM)) (fun h1 e eg => rE (s257 (w := h 269) e v3)) (⟨_, rfl⟩)
theorem op36 (q : Rel r d N h h) : OpA AInt N R (ev 109 0 [AR 1, AU, AU] [] (KS r d, h, R)) (fun r1 d1 h1 => ev 258 0 [AR 268, AU, AU] [] (KS r1 d1, h1, R)) := by
  have hM := q.1
  obtain ⟨-, ⟨hd, hx, -⟩, hn, -, -, -⟩ := id q.1
  obtain ⟨hW, hc, d1, d2, d3, d4⟩ := id hd
  obtain ⟨v0, v1, v2, v3, v4⟩ := hW.1
  have hf := hW.ft
  have hh := hereW_r hc
  have hp := q.2.1.1
  have hc4 := q.2.1.2.1
  have hc8 := q.2.1.2.2.1
  have hcn : 0 ≤ h 34 2 ∧ h 34 2 ≤ 8 := by rw [hc4]; exact hc8
  exact opQA (cE q (s109 hM)) (fun h1 e eg => rE (s258 (w := h 269) e ⟨hn.1, v0.2⟩)) (⟨_, rfl⟩)
theorem op38 {i : Int} (q : Rel r d N h h) : OpA AInt N R (ev 111 0 [AR 1, AI i, AU] [] (KS r d, h, R)) (fun r1 d1 h1 => ev 259 0 [AR 268, AI i] [] (KS r1 d1, h1, R)) := by
  have hM := q.1
  obtain ⟨-, ⟨hd, hx, -⟩, hn, -, -, -⟩ := id q.1
  obtain ⟨hW, hc, d1, d2, d3, d4⟩ := id hd
  obtain ⟨v0, v1, v2, v3, v4⟩ := hW.1
  have hf := hW.ft
  have hh := hereW_r hc
  have hp := q.2.1.1
  have hc4 := q.2.1.2.1
  have hc8 := q.2.1.2.2.1
  have hcn : 0 ≤ h 34 2 ∧ h 34 2 ≤ 8 := by rw [hc4]; exact hc8
  exact opQA (cE q (s111 hM)) (fun h1 e eg => rE (s259 (w := h 269) e d1)) (⟨_, rfl⟩)
theorem op39 {i : Int} (q : Rel r d N h h) : OpA AInt N R (ev 112 0 [AR 1, AI i] [] (KS r d, h, R)) (fun r1 d1 h1 => ev 260 0 [AR 268, AI i] [] (KS r1 d1, h1, R)) := by
  have hM := q.1
  obtain ⟨-, ⟨hd, hx, -⟩, hn, -, -, -⟩ := id q.1
  obtain ⟨hW, hc, d1, d2, d3, d4⟩ := id hd
  obtain ⟨v0, v1, v2, v3, v4⟩ := hW.1
  have hf := hW.ft
  have hh := hereW_r hc
  have hp := q.2.1.1
  have hc4 := q.2.1.2.1
  have hc8 := q.2.1.2.2.1
  have hcn : 0 ≤ h 34 2 ∧ h 34 2 ≤ 8 := by rw [hc4]; exact hc8
  exact opQA (cE q (s112 hM)) (fun h1 e eg => rE (s260 (w := h 269) e d1)) (⟨_, rfl⟩)
theorem op40 (q : Rel r d N h h) : OpA AInt N R (ev 113 0 [AR 1] [] (KS r d, h, R)) (fun r1 d1 h1 => ev 261 0 [AR 268] [] (KS r1 d1, h1, R)) := by
  have hM := q.1
  obtain ⟨-, ⟨hd, hx, -⟩, hn, -, -, -⟩ := id q.1
  obtain ⟨hW, hc, d1, d2, d3, d4⟩ := id hd
  obtain ⟨v0, v1, v2, v3, v4⟩ := hW.1
  have hf := hW.ft
  have hh := hereW_r hc
  have hp := q.2.1.1
  have hc4 := q.2.1.2.1
  have hc8 := q.2.1.2.2.1
  have hcn : 0 ≤ h 34 2 ∧ h 34 2 ≤ 8 := by rw [hc4]; exact hc8
  exact opQA (cSe q (s113 hM)) (fun h1 e eg => rQ (s261 (w := h 269) e v1 hf hc)) (⟨_, rfl⟩)
theorem op45 (q : Rel r d N h h) : OpA AInt N R (ev 118 0 [AR 1] [] (KS r d, h, R)) (fun r1 d1 h1 => ev 266 0 [AR 268, AU, AU] [] (KS r1 d1, h1, R)) := by
  have hM := q.1
  obtain ⟨-, ⟨hd, hx, -⟩, hn, -, -, -⟩ := id q.1
  obtain ⟨hW, hc, d1, d2, d3, d4⟩ := id hd
  obtain ⟨v0, v1, v2, v3, v4⟩ := hW.1
  have hf := hW.ft
  have hh := hereW_r hc
  have hp := q.2.1.1
  have hc4 := q.2.1.2.1
  have hc8 := q.2.1.2.2.1
  have hcn : 0 ≤ h 34 2 ∧ h 34 2 ≤ 8 := by rw [hc4]; exact hc8
  exact opQA (cSe q (s118 hM)) (fun h1 e eg => rQ (s266 (w := h 269) e v1 hf hc)) (⟨_, rfl⟩)
theorem op46 (q : Rel r d N h h) : OpA AInt N R (ev 119 0 [AR 1] [] (KS r d, h, R)) (fun r1 d1 h1 => ev 267 0 [AR 268, AU] [] (KS r1 d1, h1, R)) := by
  have hM := q.1
  obtain ⟨-, ⟨hd, hx, -⟩, hn, -, -, -⟩ := id q.1
  obtain ⟨hW, hc, d1, d2, d3, d4⟩ := id hd
  obtain ⟨v0, v1, v2, v3, v4⟩ := hW.1
  have hf := hW.ft
  have hh := hereW_r hc
  have hp := q.2.1.1
  have hc4 := q.2.1.2.1
  have hc8 := q.2.1.2.2.1
  have hcn : 0 ≤ h 34 2 ∧ h 34 2 ≤ 8 := by rw [hc4]; exact hc8
  exact opQA (cSe q (s119 hM)) (fun h1 e eg => rQ (s267 (w := h 269) e v1 hf hc)) (⟨_, rfl⟩)
theorem op47 (q : Rel r d N h h) : OpA AInt N R (ev 120 0 [AR 1] [] (KS r d, h, R)) (fun r1 d1 h1 => ev 269 0 [AR 268, AU, AU] [] (KS r1 d1, h1, R)) := by
  have hM := q.1
  obtain ⟨-, ⟨hd, hx, -⟩, hn, -, -, -⟩ := id q.1
  obtain ⟨hW, hc, d1, d2, d3, d4⟩ := id hd
  obtain ⟨v0, v1, v2, v3, v4⟩ := hW.1
  have hf := hW.ft
  have hh := hereW_r hc
  have hp := q.2.1.1
  have hc4 := q.2.1.2.1
  have hc8 := q.2.1.2.2.1
  have hcn : 0 ≤ h 34 2 ∧ h 34 2 ≤ 8 := by rw [hc4]; exact hc8
  exact opQA (cSe q (s120 hM)) (fun h1 e eg => rQ (s269 (w := h 269) e v1 hf hc v0)) (⟨_, rfl⟩)
theorem op48 (q : Rel r d N h h) : OpA ADbl N R (ev 121 0 [AR 1, AU, AU, AU] [] (KS r d, h, R)) (fun r1 d1 h1 => ev 270 0 [AR 268] [] (KS r1 d1, h1, R)) := by
  have hM := q.1
  obtain ⟨-, ⟨hd, hx, -⟩, hn, -, -, -⟩ := id q.1
  obtain ⟨hW, hc, d1, d2, d3, d4⟩ := id hd
  obtain ⟨v0, v1, v2, v3, v4⟩ := hW.1
  have hf := hW.ft
  have hh := hereW_r hc
  have hp := q.2.1.1
  have hc4 := q.2.1.2.1
  have hc8 := q.2.1.2.2.1
  have hcn : 0 ≤ h 34 2 ∧ h 34 2 ≤ 8 := by rw [hc4]; exact hc8
  exact opQA (cE q (s121 hM)) (fun h1 e eg => rE (s270 (w := h 269) e hW.1 hc hn.2.2)) (⟨_, rfl⟩)
theorem op4 (q : Rel r d N h h) : OpA AInt N R (ev 77 0 [AR 1] [] (KS r d, h, R)) (fun r1 d1 h1 => ev 221 0 [AR 268] [] (KS r1 d1, h1, R)) := by
  have e0 : h 1 11 = h 268 14 := q.t0.2.1.1
  have z := s77 (r := r) (d := d) (R := R) (h := h)
  rw [e0] at z
  refine opQA (tc := 0) (cE q z) (fun h1 e eg => rE (tc := 0) ?_) ⟨_, rfl⟩
  have z2 := s221 (r := r) (d := d) (R := R) (h := h1)
  rw [eg 268 14 (by decide)] at z2
  exact z2
theorem op5 (q : Rel r d N h h) : OpA AInt N R (ev 78 0 [AR 1] [] (KS r d, h, R)) (fun r1 d1 h1 => ev 222 0 [AR 268] [] (KS r1 d1, h1, R)) := by
  have e0 : h 1 12 = h 268 15 := q.t0.2.1.2
  have z := s78 (r := r) (d := d) (R := R) (h := h)
  rw [e0] at z
  refine opQA (tc := 0) (cE q z) (fun h1 e eg => rE (tc := 0) ?_) ⟨_, rfl⟩
  have z2 := s222 (r := r) (d := d) (R := R) (h := h1)
  rw [eg 268 15 (by decide)] at z2
  exact z2
end A

/-! the class's search -/
section A
variable {K : List AKd} {h : Nat → Nat → Int} {R : R4} {σ : Sg} {r d : Nat} {w : Nat → Int} {b : Nat → Int} {n : Int}
/-- a search: the reference's, the first events, the states' steps, the states' first events, the transitions that can be taken -/
abbrev XC : Type := BS × (Nat → Int) × (Nat → Int) × (Nat → Int) × (Nat → Int)
def SRl (h0 : Nat → Nat → Int) (X : XC) (D E : Int) (h : Nat → Nat → Int) : Prop := Ot 143 12 h0 h ∧ (h 143 1 = X.1.2.2 ∧ h 143 2 = D ∧ h 143 3 = E) ∧ (∀ y : Nat, y < 10 → h 144 y = X.2.2.1 y ∧ h 145 y = X.2.2.2.1 y) ∧ (∀ t : Nat, t < 24 → h 146 t = X.2.2.2.2 t)
  ∧ (∀ i : Nat, (i : Int) < X.1.2.2 → h 147 i = fl (X.1.2.1 i)) ∧ ∀ c, (0 ≤ c ∧ c ≤ 9999) → h 148 (fl c).toNat = X.1.1 c.toNat ∧ (X.1.1 c.toNat ≠ -1 → h 149 (fl c).toNat = X.2.1 c.toNat)
def fnC (X : XC) (c m e : Int) : XC := if X.1.1 c.toNat = -1 then (rc X.1 c m, udI X.2.1 c.toNat e, if X.2.2.1 (c / 1000).toNat = -1 then udI X.2.2.1 (c / 1000).toNat m else X.2.2.1, if X.2.2.1 (c / 1000).toNat = -1 then udI X.2.2.2.1 (c / 1000).toNat e else X.2.2.2.1, X.2.2.2.2) else X
theorem SRl.fr {h0 : Nat → Nat → Int} {X : XC} {D E : Int} {h1 : Nat → Nat → Int} (q : SRl h0 X D E h) (o : Ot 143 12 h0 h1) (e : ∀ x y, 143 ≤ x → x ≤ 149 → h1 x y = h x y) : SRl h0 X D E h1 := by
  obtain ⟨-, ⟨a1, a2, a3⟩, a4, a5, a6, a7⟩ := q
  exact ⟨o, ⟨(e _ _ (by decide) (by decide)).trans a1, (e _ _ (by decide) (by decide)).trans a2, (e _ _ (by decide) (by decide)).trans a3⟩, fun y hy => ⟨(e _ _ (by decide) (by decide)).trans (a4 y hy).1, (e _ _ (by decide) (by decide)).trans (a4 y hy).2⟩, fun t ht => (e _ _ (by decide) (by decide)).trans (a5 t ht), fun i hi => (e _ _ (by decide) (by decide)).trans (a6 i hi), fun c hc => ⟨(e _ _ (by decide) (by decide)).trans (a7 c hc).1, fun z => (e _ _ (by decide) (by decide)).trans ((a7 c hc).2 z)⟩⟩
/-- a new configuration in the heap -/
def fnH (h : Nat → Nat → Int) (x N m e : Int) : Nat → Nat → Int := hput (hput (hput (hput h 147 N.toNat x) 143 1 (N + 1)) 148 x.toNat m) 149 x.toNat e
theorem fnH_o {x N m e : Int} {a y : Nat} (h1 : a ≠ 147) (h2 : ¬ (a = 143 ∧ y = 1)) (h3 : a ≠ 148) (h4 : a ≠ 149) : fnH h x N m e a y = h a y := by
  unfold fnH
  rw [hput_k h4, hput_k h3]
  unfold hput
  rw [if_neg h2, if_neg (fun z => h1 z.1)]
theorem fnH_7 {x N m e : Int} {y : Nat} : fnH h x N m e 147 y = if y = N.toNat then x else h 147 y := by
  unfold fnH
  rw [hput_k (by decide), hput_k (by decide), hput_k (by decide)]
  unfold hput
  by_cases z : y = N.toNat
  · rw [if_pos ⟨rfl, z⟩, if_pos z]
  · rw [if_neg (fun q => z q.2), if_neg z]
theorem fnH_8 {x N m e : Int} {y : Nat} : fnH h x N m e 148 y = if y = x.toNat then m else h 148 y := by
  unfold fnH
  rw [hput_k (by decide)]
  by_cases z : y = x.toNat
  · rw [if_pos z, z]; exact hput_s
  · rw [if_neg z, hput_j z, hput_k (by decide), hput_k (by decide)]
theorem fnH_9 {x N m e : Int} {y : Nat} : fnH h x N m e 149 y = if y = x.toNat then e else h 149 y := by
  unfold fnH
  by_cases z : y = x.toNat
  · rw [if_pos z, z]; exact hput_s
  · rw [if_neg z, hput_j z, hput_k (by decide), hput_k (by decide), hput_k (by decide)]
theorem fnH_n {x N m e : Int} : fnH h x N m e 143 1 = N + 1 := by
  unfold fnH
  rw [hput_k (by decide), hput_k (by decide)]
  exact hput_s
theorem fnH_ot {h0 : Nat → Nat → Int} {x N m e : Int} (o : Ot 143 12 h0 h) : Ot 143 12 h0 (fnH h x N m e) := (((o.put (by decide) (by decide)).put (by decide) (by decide)).put (by decide) (by decide)).put (by decide) (by decide)
theorem SRl.new {h0 : Nat → Nat → Int} {X : XC} {D E c m e : Int} {U V : Nat → Int} {h2 : Nat → Nat → Int} (q : SRl h0 X D E h) (hB : BI X.1) (hc : 0 ≤ c ∧ c ≤ 9999) (hn : X.1.1 c.toNat = -1) (o : Ot 143 12 h0 h2) (e1 : ∀ a y, a ≠ 144 → a ≠ 145 → h2 a y = fnH h (fl c) X.1.2.2 m e a y) (e2 : ∀ y : Nat, y < 10 → h2 144 y = U y ∧ h2 145 y = V y) : SRl h0 (rc X.1 c m, udI X.2.1 c.toNat e, U, V, X.2.2.2.2) D E h2 := by
  obtain ⟨-, ⟨a1, a2, a3⟩, a4, a5, a6, a7⟩ := q
  have N0 := hB.n.1
  have er : rc X.1 c m = (udI X.1.1 c.toNat m, udI X.1.2.1 X.1.2.2.toNat c, X.1.2.2 + 1) := if_pos hn
  have fr := fl_r hc
  rw [er]
  refine ⟨o, ⟨(e1 _ _ (by decide) (by decide)).trans fnH_n, ((e1 _ _ (by decide) (by decide)).trans (fnH_o (by decide) (by decide) (by decide) (by decide))).trans a2, ((e1 _ _ (by decide) (by decide)).trans (fnH_o (by decide) (by decide) (by decide) (by decide))).trans a3⟩, e2, fun t ht => ((e1 _ _ (by decide) (by decide)).trans (fnH_o (by decide) (by omega) (by decide) (by decide))).trans (a5 t ht), fun i hi => ?_, fun c2 hc2 => ?_⟩
  · rw [e1 _ _ (by decide) (by decide), fnH_7]
    show _ = fl (udI X.1.2.1 X.1.2.2.toNat c i)
    have hi : (i : Int) < X.1.2.2 + 1 := hi
    unfold udI
    by_cases z : i = X.1.2.2.toNat
    · rw [if_pos z, if_pos z]
    · rw [if_neg z, if_neg z]
      exact a6 i (by omega)
  · have fr2 := fl_r hc2
    have hz : (fl c2).toNat = (fl c).toNat ↔ c2.toNat = c.toNat := ⟨fun z => by
      have := fl_inj hc2 hc (by omega)
      rw [this], fun z => by rw [show c2 = c by omega]⟩
    rw [e1 _ _ (by decide) (by decide), e1 _ _ (by decide) (by decide), fnH_8, fnH_9]
    show _ = udI X.1.1 c.toNat m c2.toNat ∧ (udI X.1.1 c.toNat m c2.toNat ≠ -1 → _ = udI X.2.1 c.toNat e c2.toNat)
    unfold udI
    by_cases z : c2.toNat = c.toNat
    · rw [if_pos (hz.2 z), if_pos (hz.2 z), if_pos z, if_pos z]
      exact ⟨rfl, fun _ => rfl⟩
    · rw [if_neg (fun y => z (hz.1 y)), if_neg (fun y => z (hz.1 y)), if_neg z, if_neg z]
      exact a7 c2 hc2
theorem s62 {h0 : Nat → Nat → Int} {X : XC} {D E c m e : Int} (q : SRl h0 X D E h) (hB : BI X.1) (hc : 0 ≤ c ∧ c ≤ 9999) : Rn (ev 62 0 [AR 143, AI (fl c), AI m, AI e, AU] [] (KS r d, h, R)) (fun o => ∃ h1, (SRl h0 (fnC X c m e) D E h1 ∧ (∀ x y, 150 ≤ x → h1 x y = h x y)) ∧ o = (.inl AU, (KS r d, h1, R))) := by
  have q1 := q
  obtain ⟨o1, ⟨a1, a2, a3⟩, a4, a5, a6, a7⟩ := q
  have k0 := @kd_143 r d
  have k1 := @kd_144 r d
  have k2 := @kd_145 r d
  have k3 := @kd_147 r d
  have k4 := @kd_148 r d
  have k5 := @kd_149 r d
  have fr := fl_r hc
  have fs := fl_st hc
  have N0 := hB.n
  have a8 := (a7 c hc).1
  by_cases z : X.1.1 c.toNat = -1
  · have N9 := hB.new hc z
    have u1 : h 144 (fl c / 1000).toNat = X.2.2.1 (c / 1000).toNat := by rw [fs]; exact (a4 _ (by omega)).1
    have u2 : fnH h (fl c) X.1.2.2 m e 144 (fl c / 1000).toNat = X.2.2.1 (c / 1000).toNat := (fnH_o (by decide) (by omega) (by decide) (by decide)).trans u1
    have ex : fnC X c m e = (rc X.1 c m, udI X.2.1 c.toNat e, if X.2.2.1 (c / 1000).toNat = -1 then udI X.2.2.1 (c / 1000).toNat m else X.2.2.1, if X.2.2.1 (c / 1000).toNat = -1 then udI X.2.2.2.1 (c / 1000).toNat e else X.2.2.2.1, X.2.2.2.2) := if_pos z
    rw [ex]
    have y0 : ∀ y : Nat, y < 10 → fnH h (fl c) X.1.2.2 m e 144 y = X.2.2.1 y ∧ fnH h (fl c) X.1.2.2 m e 145 y = X.2.2.2.1 y := fun y hy => ⟨(fnH_o (by decide) (by omega) (by decide) (by decide)).trans (a4 y hy).1, (fnH_o (by decide) (by omega) (by decide) (by decide)).trans (a4 y hy).2⟩
    refine w_iloadn f62_0 rfl ?_
    refine w_if_lt (t := 31) f62_1 (by decide) (fun c1 => by omega) (fun c1 => ?_)
    refine w_iloadn f62_4 rfl ?_
    refine w_sipush (v := 10000) f62_5 (by decide) ?_
    refine w_ic_ge (t := 31) f62_8 (by decide) (fun c2 => by omega) (fun c2 => ?_)
    refine w_aloadn f62_11 rfl (by omega) ?_
    refine w_getI f62_12 (by decide) (by assumption) (by exact a1) ?_
    refine w_sipush (v := 10000) f62_15 (by decide) ?_
    refine w_ic_ge (t := 31) f62_18 (by decide) (fun c3 => by omega) (fun c3 => ?_)
    refine w_aloadn f62_21 rfl (by omega) ?_
    refine w_getR f62_22 (by assumption) rfl (by omega) ?_
    refine w_iloadn f62_25 rfl ?_
    refine w_iald f62_26 (by assumption) (by omega) (by exact a8) ?_
    refine w_iconst (v := -1) f62_27 (by decide) ?_
    refine w_ic_eq (t := 32) f62_28 (by decide) (fun c4 => ?_) (fun c4 => by omega)
    refine w_aloadn f62_32 rfl (by omega) ?_
    refine w_getR f62_33 (by assumption) rfl (by omega) ?_
    refine w_aloadn f62_36 rfl (by omega) ?_
    refine w_getI f62_37 (by decide) (by assumption) (by exact a1) ?_
    refine w_iloadn f62_40 rfl ?_
    refine w_iast f62_41 (by assumption) (by omega) ?_
    refine w_aloadn f62_42 rfl (by omega) ?_
    refine w_dup f62_43 rfl ?_
    refine w_getI f62_44 (by decide) (by assumption) (by exact (hput_k (by decide)).trans a1) ?_
    refine w_iconst (v := 1) f62_47 (by decide) ?_
    refine w_iaddn f62_48 (by omega) ?_
    refine w_putI f62_49 (by assumption) ?_
    refine w_aloadn f62_52 rfl (by omega) ?_
    refine w_getR f62_53 (by assumption) rfl (by omega) ?_
    refine w_iloadn f62_56 rfl ?_
    refine w_iloadn f62_57 rfl ?_
    refine w_iast f62_58 (by assumption) (by omega) ?_
    refine w_aloadn f62_59 rfl (by omega) ?_
    refine w_getR f62_60 (by assumption) rfl (by omega) ?_
    refine w_iloadn f62_63 rfl ?_
    refine w_iloadn f62_64 rfl ?_
    refine w_iast f62_65 (by assumption) (by omega) ?_
    refine w_iloadn f62_66 rfl ?_
    refine w_sipush (v := 1000) f62_67 (by decide) ?_
    refine w_idiv f62_70 (by omega) ?_
    refine w_istore f62_71 (Nat.le_of_ble_eq_true rfl) (sto_5_4 rfl) ?_
    refine w_aloadn f62_73 rfl (by omega) ?_
    refine w_getR f62_74 (by assumption) rfl (by omega) ?_
    refine w_iload f62_77 rfl ?_
    refine w_iald f62_79 (by assumption) (by omega) (by exact u2) ?_
    refine w_iconst (v := -1) f62_80 (by decide) ?_
    refine w_ic_ne (t := 100) f62_81 (by decide) (fun c5 => ?_) (fun c5 => ?_)
    · refine w_ret f62_100 rfl ?_
      first | (rw [if_pos (show X.2.2.1 (c / 1000).toNat = -1 by assumption), if_pos (show X.2.2.1 (c / 1000).toNat = -1 by assumption)]; refine ⟨_, ⟨q1.new hB hc z (((fnH_ot o1).put (by decide) (by decide)).put (by decide) (by decide)) (fun a y y1 y2 => (hput_k y2).trans (hput_k y1)) (fun y hy => ?_), fun x y hx => (hput_k (by omega)).trans ((hput_k (by omega)).trans (fnH_o (by omega) (by omega) (by omega) (by omega)))⟩, rfl⟩; rw [fs]; unfold udI; by_cases zy : y = (c / 1000).toNat; (rw [if_pos zy, if_pos zy, zy]; exact ⟨(hput_k (by decide)).trans hput_s, hput_s⟩); (rw [if_neg zy, if_neg zy]; exact ⟨(hput_k (by decide)).trans ((hput_j zy).trans (y0 y hy).1), (hput_j zy).trans ((hput_k (by decide)).trans (y0 y hy).2)⟩); done) | (rw [if_neg (show ¬ X.2.2.1 (c / 1000).toNat = -1 by assumption), if_neg (show ¬ X.2.2.1 (c / 1000).toNat = -1 by assumption)]; exact ⟨_, ⟨q1.new hB hc z (fnH_ot o1) (fun a y y1 y2 => rfl) y0, fun x y hx => fnH_o (by omega) (by omega) (by omega) (by omega)⟩, rfl⟩)
    · refine w_aloadn f62_84 rfl (by omega) ?_
      refine w_getR f62_85 (by assumption) rfl (by omega) ?_
      refine w_iload f62_88 rfl ?_
      refine w_iloadn f62_90 rfl ?_
      refine w_iast f62_91 (by assumption) (by omega) ?_
      refine w_aloadn f62_92 rfl (by omega) ?_
      refine w_getR f62_93 (by assumption) rfl (by omega) ?_
      refine w_iload f62_96 rfl ?_
      refine w_iloadn f62_98 rfl ?_
      refine w_iast f62_99 (by assumption) (by omega) ?_
      refine w_ret f62_100 rfl ?_
      first | (rw [if_pos (show X.2.2.1 (c / 1000).toNat = -1 by assumption), if_pos (show X.2.2.1 (c / 1000).toNat = -1 by assumption)]; refine ⟨_, ⟨q1.new hB hc z (((fnH_ot o1).put (by decide) (by decide)).put (by decide) (by decide)) (fun a y y1 y2 => (hput_k y2).trans (hput_k y1)) (fun y hy => ?_), fun x y hx => (hput_k (by omega)).trans ((hput_k (by omega)).trans (fnH_o (by omega) (by omega) (by omega) (by omega)))⟩, rfl⟩; rw [fs]; unfold udI; by_cases zy : y = (c / 1000).toNat; (rw [if_pos zy, if_pos zy, zy]; exact ⟨(hput_k (by decide)).trans hput_s, hput_s⟩); (rw [if_neg zy, if_neg zy]; exact ⟨(hput_k (by decide)).trans ((hput_j zy).trans (y0 y hy).1), (hput_j zy).trans ((hput_k (by decide)).trans (y0 y hy).2)⟩); done) | (rw [if_neg (show ¬ X.2.2.1 (c / 1000).toNat = -1 by assumption), if_neg (show ¬ X.2.2.1 (c / 1000).toNat = -1 by assumption)]; exact ⟨_, ⟨q1.new hB hc z (fnH_ot o1) (fun a y y1 y2 => rfl) y0, fun x y hx => fnH_o (by omega) (by omega) (by omega) (by omega)⟩, rfl⟩)
  · have ex : fnC X c m e = X := if_neg z
    rw [ex]
    refine w_iloadn f62_0 rfl ?_
    refine w_if_lt (t := 31) f62_1 (by decide) (fun c1 => by omega) (fun c1 => ?_)
    refine w_iloadn f62_4 rfl ?_
    refine w_sipush (v := 10000) f62_5 (by decide) ?_
    refine w_ic_ge (t := 31) f62_8 (by decide) (fun c2 => by omega) (fun c2 => ?_)
    refine w_aloadn f62_11 rfl (by omega) ?_
    refine w_getI f62_12 (by decide) (by assumption) (by exact a1) ?_
    refine w_sipush (v := 10000) f62_15 (by decide) ?_
    refine w_ic_ge (t := 31) f62_18 (by decide) (fun c3 => ?_) (fun c3 => ?_)
    · refine w_ret f62_31 rfl ?_
      exact ⟨h, ⟨q1, fun _ _ _ => rfl⟩, rfl⟩
    · refine w_aloadn f62_21 rfl (by omega) ?_
      refine w_getR f62_22 (by assumption) rfl (by omega) ?_
      refine w_iloadn f62_25 rfl ?_
      refine w_iald f62_26 (by assumption) (by omega) (by exact a8) ?_
      refine w_iconst (v := -1) f62_27 (by decide) ?_
      refine w_ic_eq (t := 32) f62_28 (by decide) (fun c4 => by omega) (fun c4 => ?_)
      refine w_ret f62_31 rfl ?_
      exact ⟨h, ⟨q1, fun _ _ _ => rfl⟩, rfl⟩
end A

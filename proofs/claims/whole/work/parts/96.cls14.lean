/-! the class's verdicts, II -/
section A
variable {K : List AKd} {h : Nat → Nat → Int} {R : R4} {σ : Sg} {r d : Nat} {w : Nat → Int} {b : Nat → Int} {n : Int}
theorem nx0_v {c t i : Int} : vIn (nx0 w c t) i = vIn c i := by
  unfold nx0 vIn wt
  split
  · omega
  · split <;> omega
theorem RCf.nx {k : Nat} {c t v : Int} (q : RCf h k c) (e : v = tr w t 2) : RCf (hput h k 0 v) k (nx0 w c t) := by
  refine ⟨hput_s.trans (by rw [nx0_st]; exact e), fun j hj => ?_⟩
  rw [nx0_v]
  exact (hput_k (by omega)).trans (q.2 j hj)
theorem withV_v {c i j v : Int} (hv : 0 ≤ v ∧ v ≤ 9) (hi : 0 ≤ i ∧ i < 3) (hj : 0 ≤ j ∧ j < 3) : vIn (withV c i v) j = if j = i then v else vIn c j := by
  rcases (show i = 0 ∨ i = 1 ∨ i = 2 by omega) with rfl | rfl | rfl <;> rcases (show j = 0 ∨ j = 1 ∨ j = 2 by omega) with rfl | rfl | rfl <;> simp [withV, vIn, wt] <;> omega
theorem RCf.put {k : Nat} {c i v : Int} (q : RCf h k c) (hi : 0 ≤ i ∧ i < 3) (hv : 0 ≤ v ∧ v ≤ 9) : RCf (hput h (k + 1) i.toNat v) k (withV c i v) := by
  refine ⟨(hput_k (by omega)).trans (by rw [withV_st hv]; exact q.1), fun j hj => ?_⟩
  rw [withV_v hv hi (by omega)]
  by_cases e : (j : Int) = i
  · rw [if_pos e]
    have : j = i.toNat := by omega
    rw [this]
    exact hput_s
  · rw [if_neg e]
    exact (hput_j (by omega)).trans (q.2 j hj)
/-- what an attempt leaves -/
def AtR (h : Nat → Nat → Int) (k : Nat) (w : Nat → Int) (v : Int × Int × Int) (h1 : Nat → Nat → Int) : Prop := Ot k 3 h h1 ∧ h1 k 0 = v.1 ∧ h1 k 1 = v.2.1 ∧ h1 k 2 = (if v.1 = 4 then fb w v.2.2 else -1) ∧ (v.1 = 0 → RCf h1 (k + 1) v.2.2)
def AtQ (r d : Nat) (R : R4) (h : Nat → Nat → Int) (k : Nat) (w : Nat → Int) (v : Int × Int × Int) : Out → Prop := fun o => ∃ h1, AtR h k w v h1 ∧ o = (.inl AU, (KS r d, h1, R))
theorem fb_r {c : Int} (h4 : 0 ≤ w 4) : fb w c = -1 ∨ (0 ≤ fb w c ∧ fb w c < w 4) := by
  have g : ∀ (n : Nat) (i : Int), fbG w c n i = -1 ∨ (i ≤ fbG w c n i ∧ fbG w c n i < i + n) := by
    intro n
    induction n with
    | zero => exact fun i => Or.inl rfl
    | succ n ih =>
      intro i
      simp only [fbG]
      split
      · exact Or.inr ⟨Int.le_refl _, by omega⟩
      · have := ih (i + 1)
        omega
  have := g (w 4).toNat 0
  unfold fb
  omega
theorem l69b {h0 : Nat → Nat → Int} {k l i j : Nat} {c x : Int} {t : Int} (hk : ShSp (KS r d) k) (hi : ShIv (KS r d) i) (k0 : 0 < k) (i0 : 0 < i) (l0 : 0 < l) (j0 : 0 < j) (hW : WFm w) (hv : RIv h i w) (hc : RCf h (k + 1) c) (hc0 : 0 ≤ c) (o1 : Ot k 3 h0 h) (e1 : h k 1 = t) : Rn (ev 69 60 [AR k, AR l, AR i, AR j, AI x] [] (KS r d, h, R)) (AtQ r d R h0 k w (vdF w c, t, c)) := by
  have h4 := hW.1.2.2.2.2
  have g1 : ∀ i, 0 ≤ i → i < w 4 → 0 ≤ iv w i 1 ∧ iv w i 1 < 3 := fun i z1 z2 => by
    have := (hW.2.2.2.2 i z1 z2).2.1
    have := hW.1.2.2.1
    omega
  obtain ⟨k1, hn⟩ := hk
  have i1 := hi.1
  have fr := fb_r (w := w) (c := c) h4.1
  have zz : ∀ x y : Int, RCf (hput (hput h k 2 x) k 0 y) (k + 1) c := fun x y => hc.fr (fun a b z1 z2 => (hput_k (by omega)).trans (hput_k (by omega)))
  refine w_aloadn f69_60 rfl (by omega) ?_
  refine w_aloadn f69_61 rfl (by omega) ?_
  refine w_aloadn f69_62 rfl (by omega) ?_
  refine w_getR f69_63 (by assumption) rfl (by omega) ?_
  refine w_cV f69_66 (Or.inl rfl) rfl (by omega) (okd_of (by assumption)) rfl ⟨Nat.le_of_ble_eq_true rfl, rfl, Nat.le_of_ble_eq_true rfl⟩ (en40 _ _) (s40 hi hn i0 (by omega) hv hc h4 g1) (pv40 _ _) ?_
  refine w_putI f69_69 (by assumption) ?_
  refine w_aloadn f69_72 rfl (by omega) ?_
  refine w_aloadn f69_73 rfl (by omega) ?_
  refine w_getI f69_74 (by decide) (by assumption) (by (try simp only [hput, hcopy, Nat.reduceEqDiff, Nat.add_left_cancel_iff, Nat.add_right_cancel_iff, Nat.left_eq_add, Nat.add_eq_left, Nat.right_eq_add, Nat.add_eq_right, Nat.reduceAdd, Nat.add_zero, Nat.succ_ne_self, Nat.one_ne_zero, Nat.zero_ne_one, eq_self, and_self, and_true, true_and, and_false, false_and, if_true, if_false, reduceIte, Int.reduceToNat, Int.toNat_natCast]); exact rfl) ?_
  refine w_iconst (v := -1) f69_77 (by decide) ?_
  refine w_ic_ne (t := 85) f69_78 (by decide) (fun c1 => ?_) (fun c1 => ?_)
  · refine w_iconst (v := 4) f69_85 (by decide) ?_
    refine w_putI f69_86 (by assumption) ?_
    refine w_ret f69_89 rfl ?_
    by_cases z : fb w c = -1
    · have zv : vdF w c = 0 := by unfold vdF; rw [if_pos z]
      first | (exfalso; omega) | (rw [zv]; exact ⟨_, ⟨(o1.put (by omega) (by omega)).put (by omega) (by omega), hput_s, (hput_j (by decide)).trans ((hput_j (by decide)).trans e1), ((hput_j (by decide)).trans hput_s).trans z, fun _ => zz _ _⟩, rfl⟩)
    · have zv : vdF w c = 4 := by unfold vdF; rw [if_neg z]
      first | (exfalso; omega) | (rw [zv]; exact ⟨_, ⟨(o1.put (by omega) (by omega)).put (by omega) (by omega), hput_s, (hput_j (by decide)).trans ((hput_j (by decide)).trans e1), (hput_j (by decide)).trans hput_s, fun q => absurd q (show ¬ (4 : Int) = 0 by decide)⟩, rfl⟩)
  · refine w_iconst (v := 0) f69_81 (by decide) ?_
    refine w_goto (t := 86) f69_82 (by decide) ?_
    refine w_putI f69_86 (by assumption) ?_
    refine w_ret f69_89 rfl ?_
    by_cases z : fb w c = -1
    · have zv : vdF w c = 0 := by unfold vdF; rw [if_pos z]
      first | (exfalso; omega) | (rw [zv]; exact ⟨_, ⟨(o1.put (by omega) (by omega)).put (by omega) (by omega), hput_s, (hput_j (by decide)).trans ((hput_j (by decide)).trans e1), ((hput_j (by decide)).trans hput_s).trans z, fun _ => zz _ _⟩, rfl⟩)
    · have zv : vdF w c = 4 := by unfold vdF; rw [if_neg z]
      first | (exfalso; omega) | (rw [zv]; exact ⟨_, ⟨(o1.put (by omega) (by omega)).put (by omega) (by omega), hput_s, (hput_j (by decide)).trans ((hput_j (by decide)).trans e1), (hput_j (by decide)).trans hput_s, fun q => absurd q (show ¬ (4 : Int) = 0 by decide)⟩, rfl⟩)
theorem s69t {k l i j : Nat} {c e t : Int} (hk : ShSp (KS r d) k) (hl : ShRl (KS r d) l) (hi : ShIv (KS r d) i) (hj : ShCf (KS r d) j) (k0 : 0 < k) (l0 : 0 < l) (i0 : 0 < i) (j0 : 0 < j) (d1 : l + 56 ≤ k ∨ k + 3 ≤ l) (d2 : j + 2 ≤ k ∨ k + 3 ≤ j) (d3 : i + 5 ≤ k ∨ k + 3 ≤ i) (hW : WFm w) (hv : RTr h l w) (hI : RIv h i w) (hc : RCf h j c) (h1 : 0 ≤ c ∧ c ≤ 9999) (et : (ch w c e).2 = t) (ht : 0 ≤ t ∧ t < w 3) (hz1 : ¬ (ch w c e).1 = 0) :
    Rn (ev 69 0 [AR k, AR l, AR i, AR j, AI e] [] (KS r d, h, R)) (AtQ r d R h k w (vdt w c e)) := by
  have hk1 := hk
  have hl1 := hl
  obtain ⟨k1, hn⟩ := hk
  obtain ⟨l1, -, -, -, -, -, a0, a1, a2, a3, a4, a5, a6, a7, a8⟩ := hl
  obtain ⟨j1, j2⟩ := id hj
  have hw3 := hW.1.2.2.2.1
  have hw2 := hW.1.2.2.1
  have o1 : Ot k 3 h (hput h k 2 (-1)) := Ot.rf.put (by omega) (by omega)
  have n1 := hn.1
  have i1 := hi.1
  obtain ⟨-, -, t2, -, t6⟩ := hW.2.2.2.1 t ht.1 ht.2
  have hw0 := hW.1.1
  have hnx := nx0_r (w := w) (t := t) h1 (by omega)
  have e1z : vdt w c e = if tr w t 6 = -1 then (vdF w (nx0 w c t), t, nx0 w c t)
      else if 0 ≤ actV w t (vIn c (tr w t 6)) ∧ actV w t (vIn c (tr w t 6)) ≤ 9 then (vdF w (withV (nx0 w c t) (tr w t 6) (actV w t (vIn c (tr w t 6)))), t, withV (nx0 w c t) (tr w t 6) (actV w t (vIn c (tr w t 6)))) else (3, t, c) := by
    unfold vdt
    rw [if_neg hz1, et, if_neg (show ¬ t = -1 by omega)]
  rw [e1z]
  have p34 : ∀ h2 h3 : Nat → Nat → Int, ChQ (hput h k 2 (-1)) k (ch w c e) h2 → Ot (k + 1) 2 h2 h3 → RCf h3 (k + 1) c → h3 (l + 49) t.toNat = tr w t 2 ∧ h3 k 1 = t ∧ Ot k 3 h (hput h3 (k + 1) 0 (tr w t 2)) ∧ h3 k 2 = -1 ∧ RCf (hput h3 (k + 1) 0 (tr w t 2)) (k + 1) (nx0 w c t) := fun h2 h3 q p1 p2 => by
    obtain ⟨q1, q2, q3, q4⟩ := q
    have o2 : Ot k 3 h h3 := (o1.tr (q1.up (by omega) (by omega))).tr (p1.up (by omega) (by omega))
    exact ⟨((hv.ot o2 (by omega)).v ht).1.2.2, (p1 _ _ (by omega)).trans (q3.trans et), o2.put (by omega) (by omega), (p1 _ _ (by omega)).trans (q4.trans hput_s), p2.nx rfl⟩
  by_cases z6 : tr w t 6 = -1
  · rw [if_pos z6]
    refine w_aloadn f69_0 rfl (by omega) ?_
    refine w_iconst (v := -1) f69_1 (by decide) ?_
    refine w_putI f69_2 (by assumption) ?_
    refine w_aloadn f69_5 rfl (by omega) ?_
    refine w_aloadn f69_6 rfl (by omega) ?_
    refine w_aloadn f69_7 rfl (by omega) ?_
    refine w_iload f69_8 rfl ?_
    refine w_qV f69_10 (Or.inl rfl) rfl (by omega) (okd_of (by assumption)) rfl ⟨Nat.le_of_ble_eq_true rfl, rfl, Nat.le_of_ble_eq_true rfl⟩ (en70 _ _ _ _) (s70 hk1 hl1 hj k0 l0 j0 (by omega) (by omega) hW (hv.ot o1 (by omega)) (hc.ot o1 (by omega))) (fun o9 ho9 => ?_)
    obtain ⟨h2, hq, rfl⟩ := ho9
    refine w_bok (pv70 _ _) ?_
    refine w_aloadn f69_13 rfl (by omega) ?_
    refine w_getI f69_14 (by decide) (by assumption) (by exact hq.2.2.1.trans et) ?_
    refine w_iconst (v := -1) f69_17 (by decide) ?_
    refine w_ic_ne (t := 22) f69_18 (by decide) (fun c1 => ?_) (fun c1 => by omega)
    refine w_aloadn f69_22 rfl (by omega) ?_
    refine w_getR f69_23 (by assumption) rfl (by omega) ?_
    refine w_aloadn f69_26 rfl (by omega) ?_
    refine w_qV f69_27 (Or.inl rfl) rfl (by omega) (okd_of (by assumption)) rfl ⟨Nat.le_of_ble_eq_true rfl, rfl, Nat.le_of_ble_eq_true rfl⟩ (en1 _ _) (s1 hn hj (by omega) j0 (by omega) ((hc.ot o1 (by omega)).ot hq.1 (by omega))) (fun o9 ho9 => ?_)
    obtain ⟨h3, ⟨p1, p2⟩, rfl⟩ := ho9
    obtain ⟨x1, x2, x3, x4, x5⟩ := p34 _ _ hq p1 p2
    refine w_bok (pv1 _ _) ?_
    refine w_aloadn f69_30 rfl (by omega) ?_
    refine w_getR f69_31 (by assumption) rfl (by omega) ?_
    refine w_aloadn f69_34 rfl (by omega) ?_
    refine w_getR f69_35 (by assumption) rfl (by omega) ?_
    refine w_aloadn f69_38 rfl (by omega) ?_
    refine w_getI f69_39 (by decide) (by assumption) (by exact x2) ?_
    refine w_iald f69_42 (by assumption) (by omega) (by exact x1) ?_
    refine w_putI f69_43 (by assumption) ?_
    refine w_aloadn f69_46 rfl (by omega) ?_
    refine w_aloadn f69_47 rfl (by omega) ?_
    refine w_cV f69_48 (Or.inl rfl) rfl (by omega) (okd_of (by assumption)) rfl ⟨Nat.le_of_ble_eq_true rfl, rfl, Nat.le_of_ble_eq_true rfl⟩ (en71 _ _) (s71n hk1 hl1 k0 l0 hw3.2 (hv.ot x3 (by omega)) ((hput_k (by omega)).trans x2) ht z6) (pv71 _ _) ?_
    refine w_if_ne (t := 60) f69_51 (by decide) (fun c2 => ?_) (fun c2 => by omega)
    exact l69b (i := i) (l := l) (j := j) hk1 hi k0 i0 l0 j0 hW (hI.ot x3 (by omega)) x5 hnx.1 x3 ((hput_k (by omega)).trans x2)
  · rw [if_neg z6]
    obtain ⟨t6, t7, t8⟩ := t6.resolve_left z6
    have hv9 := vIn_r c (tr w t 6)
    have o3 : ∀ h3 : Nat → Nat → Int, ∀ y : Int, Ot k 3 h h3 → Ot k 3 h (hput h3 (k + 2) (tr w t 6).toNat y) := fun h3 y q => q.put (by omega) (by omega)
    refine w_aloadn f69_0 rfl (by omega) ?_
    refine w_iconst (v := -1) f69_1 (by decide) ?_
    refine w_putI f69_2 (by assumption) ?_
    refine w_aloadn f69_5 rfl (by omega) ?_
    refine w_aloadn f69_6 rfl (by omega) ?_
    refine w_aloadn f69_7 rfl (by omega) ?_
    refine w_iload f69_8 rfl ?_
    refine w_qV f69_10 (Or.inl rfl) rfl (by omega) (okd_of (by assumption)) rfl ⟨Nat.le_of_ble_eq_true rfl, rfl, Nat.le_of_ble_eq_true rfl⟩ (en70 _ _ _ _) (s70 hk1 hl1 hj k0 l0 j0 (by omega) (by omega) hW (hv.ot o1 (by omega)) (hc.ot o1 (by omega))) (fun o9 ho9 => ?_)
    obtain ⟨h2, hq, rfl⟩ := ho9
    refine w_bok (pv70 _ _) ?_
    refine w_aloadn f69_13 rfl (by omega) ?_
    refine w_getI f69_14 (by decide) (by assumption) (by exact hq.2.2.1.trans et) ?_
    refine w_iconst (v := -1) f69_17 (by decide) ?_
    refine w_ic_ne (t := 22) f69_18 (by decide) (fun c1 => ?_) (fun c1 => by omega)
    refine w_aloadn f69_22 rfl (by omega) ?_
    refine w_getR f69_23 (by assumption) rfl (by omega) ?_
    refine w_aloadn f69_26 rfl (by omega) ?_
    refine w_qV f69_27 (Or.inl rfl) rfl (by omega) (okd_of (by assumption)) rfl ⟨Nat.le_of_ble_eq_true rfl, rfl, Nat.le_of_ble_eq_true rfl⟩ (en1 _ _) (s1 hn hj (by omega) j0 (by omega) ((hc.ot o1 (by omega)).ot hq.1 (by omega))) (fun o9 ho9 => ?_)
    obtain ⟨h3, ⟨p1, p2⟩, rfl⟩ := ho9
    obtain ⟨x1, x2, x3, x4, x5⟩ := p34 _ _ hq p1 p2
    refine w_bok (pv1 _ _) ?_
    refine w_aloadn f69_30 rfl (by omega) ?_
    refine w_getR f69_31 (by assumption) rfl (by omega) ?_
    refine w_aloadn f69_34 rfl (by omega) ?_
    refine w_getR f69_35 (by assumption) rfl (by omega) ?_
    refine w_aloadn f69_38 rfl (by omega) ?_
    refine w_getI f69_39 (by decide) (by assumption) (by exact x2) ?_
    refine w_iald f69_42 (by assumption) (by omega) (by exact x1) ?_
    refine w_putI f69_43 (by assumption) ?_
    refine w_aloadn f69_46 rfl (by omega) ?_
    refine w_aloadn f69_47 rfl (by omega) ?_
    refine w_cV f69_48 (Or.inl rfl) rfl (by omega) (okd_of (by assumption)) rfl ⟨Nat.le_of_ble_eq_true rfl, rfl, Nat.le_of_ble_eq_true rfl⟩ (en71 _ _) (s71v hk1 hl1 k0 l0 hw3.2 (hv.ot x3 (by omega)) ((hput_k (by omega)).trans x2) ht z6 (by omega) t7 t8 ((x5.v (by omega)).trans nx0_v) hv9) (pv71 _ _) ?_
    refine w_ifb_ne (t := 60) f69_51 (by decide) (fun c2 => ?_) (fun c2 => ?_)
    · rw [if_pos (show 0 ≤ actV w t (vIn c (tr w t 6)) ∧ actV w t (vIn c (tr w t 6)) ≤ 9 by assumption)]
      have cr := (show 0 ≤ actV w t (vIn c (tr w t 6)) ∧ actV w t (vIn c (tr w t 6)) ≤ 9 by assumption)
      exact l69b (i := i) (l := l) (j := j) hk1 hi k0 i0 l0 j0 hW (hI.ot (o3 _ _ x3) (by omega)) (x5.put (by omega) cr) (withV_r hnx cr).1 (o3 _ _ x3) ((hput_k (by omega)).trans ((hput_k (by omega)).trans x2))
    · refine w_aloadn f69_54 rfl (by omega) ?_
      refine w_iconst (v := 3) f69_55 (by decide) ?_
      refine w_putI f69_56 (by assumption) ?_
      refine w_ret f69_59 rfl ?_
      rw [if_neg (show ¬ (0 ≤ actV w t (vIn c (tr w t 6)) ∧ actV w t (vIn c (tr w t 6)) ≤ 9) by assumption)]
      exact ⟨_, ⟨(o3 _ _ x3).put (by omega) (by omega), hput_s, (hput_j (by decide)).trans ((hput_k (by omega)).trans ((hput_k (by omega)).trans x2)), (hput_j (by decide)).trans ((hput_k (by omega)).trans ((hput_k (by omega)).trans x4)), fun q => absurd q (show ¬ (3 : Int) = 0 by decide)⟩, rfl⟩
theorem s69 {k l i j : Nat} {c e : Int} (hk : ShSp (KS r d) k) (hl : ShRl (KS r d) l) (hi : ShIv (KS r d) i) (hj : ShCf (KS r d) j) (k0 : 0 < k) (l0 : 0 < l) (i0 : 0 < i) (j0 : 0 < j) (d1 : l + 56 ≤ k ∨ k + 3 ≤ l) (d2 : j + 2 ≤ k ∨ k + 3 ≤ j) (d3 : i + 5 ≤ k ∨ k + 3 ≤ i) (hW : WFm w) (hv : RTr h l w) (hI : RIv h i w) (hc : RCf h j c) (h1 : 0 ≤ c ∧ c ≤ 9999) :
    Rn (ev 69 0 [AR k, AR l, AR i, AR j, AI e] [] (KS r d, h, R)) (AtQ r d R h k w (vdt w c e)) := by
  have h3 := hW.1.2.2.2.1
  have hr := ch_r (w := w) (c := c) (e := e) h3.1
  by_cases zt : (ch w c e).2 = -1
  · have hk1 := hk
    obtain ⟨k1, hn⟩ := hk
    have o1 : Ot k 3 h (hput h k 2 (-1)) := Ot.rf.put (by omega) (by omega)
    have zv : vdt w c e = (1 + (ch w c e).1, -1, c) := by
      unfold vdt
      rcases hr.1 with z | z
      · rw [if_pos z, z]; rfl
      · rw [if_neg (by omega), if_pos zt, z]; rfl
    rw [zv]
    refine w_aloadn f69_0 rfl (by omega) ?_
    refine w_iconst (v := -1) f69_1 (by decide) ?_
    refine w_putI f69_2 (by assumption) ?_
    refine w_aloadn f69_5 rfl (by omega) ?_
    refine w_aloadn f69_6 rfl (by omega) ?_
    refine w_aloadn f69_7 rfl (by omega) ?_
    refine w_iload f69_8 rfl ?_
    refine w_qV f69_10 (Or.inl rfl) rfl (by omega) (okd_of (by assumption)) rfl ⟨Nat.le_of_ble_eq_true rfl, rfl, Nat.le_of_ble_eq_true rfl⟩ (en70 _ _ _ _) (s70 hk1 hl hj k0 l0 j0 (by omega) (by omega) hW (hv.ot o1 (by omega)) (hc.ot o1 (by omega))) (fun o9 ho9 => ?_)
    obtain ⟨h2, ⟨q1, q2, q3, q4⟩, rfl⟩ := ho9
    refine w_bok (pv70 _ _) ?_
    refine w_aloadn f69_13 rfl (by omega) ?_
    refine w_getI f69_14 (by decide) (by assumption) (by exact q3) ?_
    refine w_iconst (v := -1) f69_17 (by decide) ?_
    refine w_ic_ne (t := 22) f69_18 (by decide) (fun c1 => by omega) (fun c1 => ?_)
    refine w_ret f69_21 rfl ?_
    exact ⟨_, ⟨o1.tr (q1.up (by omega) (by omega)), q2, q3.trans zt, (q4.trans hput_s).trans (if_neg (by show ¬ 1 + (ch w c e).1 = 4; omega)).symm, fun z => absurd z (by show ¬ 1 + (ch w c e).1 = 0; omega)⟩, rfl⟩
  · exact s69t hk hl hi hj k0 l0 i0 j0 d1 d2 d3 hW hv hI hc h1 rfl ⟨(hr.2.2.resolve_left zt).1, (hr.2.2.resolve_left zt).2.1⟩ (fun z => zt (hr.2.1 z))
end A

/-! the class's search, IV: in depth -/
section A
variable {K : List AKd} {h : Nat → Nat → Int} {R : R4} {σ : Sg} {r d : Nat} {w : Nat → Int} {b : Nat → Int} {n : Int}
/-- the rows of a search in depth -/
def DRl (h0 : Nat → Nat → Int) (T : DT) (h : Nat → Nat → Int) : Prop := (Ot 143 12 h0 h ∧ ∀ x y, 143 ≤ x → x ≤ 149 → x ≠ 147 → x ≠ 148 → h x y = h0 x y) ∧ (∀ c, (0 ≤ c ∧ c ≤ 9999) → h 148 (fl c).toNat = T.1 c.toNat) ∧ ∀ i : Nat, (i : Int) < T.2.2.1 → h 147 i = fl (T.2.1 i)
theorem DRl.fr {h0 : Nat → Nat → Int} {T : DT} {h1 : Nat → Nat → Int} (q : DRl h0 T h) (o : Ot 150 5 h h1) : DRl h0 T h1 :=
  ⟨⟨q.1.1.tr (o.up (by decide) (by decide)), fun x y x1 x2 x3 x4 => (o x y (by omega)).trans (q.1.2 x y x1 x2 x3 x4)⟩, fun c hc => (o _ _ (by omega)).trans (q.2.1 c hc), fun i hi => (o _ _ (by omega)).trans (q.2.2 i hi)⟩
theorem DRl.put {h0 : Nat → Nat → Int} {T : DT} {x : Int} (q : DRl h0 T h) (hT : 0 ≤ T.2.2.1) (hx : 0 ≤ x ∧ x ≤ 9999) (hn : T.1 x.toNat = -1) : DRl h0 (dpP T x) (hput (hput h 148 (fl x).toNat 0) 147 T.2.2.1.toNat (fl x)) := by
  have e : dpP T x = (udI T.1 x.toNat 0, udI T.2.1 T.2.2.1.toNat x, T.2.2.1 + 1, T.2.2.2 + 1) := if_pos hn
  rw [e]
  refine ⟨⟨(q.1.1.put (by decide) (by decide)).put (by decide) (by decide), fun a y x1 x2 x3 x4 => (hput_k x3).trans ((hput_k x4).trans (q.1.2 a y x1 x2 x3 x4))⟩, fun c hc => ?_, fun i hi => ?_⟩
  · show _ = udI T.1 x.toNat 0 c.toNat
    have f1 := fl_r hc
    have f2 := fl_r hx
    rw [hput_k (by decide)]
    unfold udI
    by_cases z : c.toNat = x.toNat
    · have : c = x := by omega
      rw [if_pos z, this]
      exact hput_s
    · have z2 : ¬ (fl c).toNat = (fl x).toNat := fun y => z (by rw [fl_inj hc hx (by omega)])
      rw [if_neg z, hput_j z2]
      exact q.2.1 c hc
  · show _ = fl (udI T.2.1 T.2.2.1.toNat x i)
    have hi : (i : Int) < T.2.2.1 + 1 := hi
    unfold udI
    by_cases z : i = T.2.2.1.toNat
    · rw [if_pos z, z]; exact hput_s
    · rw [if_neg z, hput_j z, hput_k (by decide)]
      exact q.2.2 i (by omega)
theorem l64e {h0 : Nat → Nat → Int} {c p k : Int} {l i j : Nat} (hl : ShRl (KS r d) l) (hi : ShIv (KS r d) i) (l0 : 155 ≤ l) (i0 : 0 < i) (j0 : 0 < j) (d3 : i + 5 ≤ 143) (hW : WFm w) (hv : RTr h0 l w) (hI : RIv h0 i w) (he : h0 (l + 14) 2 = w 1) (hc : 0 ≤ c ∧ c ≤ 9999) {Q : Out → Prop} : ∀ (n : Nat) (e : Int) (T : DT) (h : Nat → Nat → Int) (v : AV), 0 ≤ e → e + n = w 1 → DI T p → DRl h0 T h → RCf h 150 c →
    (∀ h1 v1, DRl h0 (dpE w c n e T) h1 → Rn (ev 64 179 [AR 143, AR l, AR i, AR j, AI (dpE w c n e T).2.2.1, AI (dpE w c n e T).2.2.2, AI k, AI (w 1), v1] [] (KS r d, h1, R)) Q) →
    Rn (ev 64 72 [AR 143, AR l, AR i, AR j, AI T.2.2.1, AI T.2.2.2, AI k, AI e, v] [] (KS r d, h, R)) Q := by
  intro n
  have hl1 := hl
  obtain ⟨l1, -, n2, -⟩ := hl
  have n21 := n2.1
  have k0 := @kd_143 r d
  have k3 := @kd_147 r d
  have k4 := @kd_148 r d
  have k6 := @kd_150 r d
  have k7 := @kd_152 r d
  have k8 := @kd_153 r d
  have ks : ShSp (KS r d) 152 := ⟨kd_152, kd_153, kd_154⟩
  have kc : ShCf (KS r d) 150 := ⟨kd_150, kd_151⟩
  induction n with
  | zero =>
    intro e T h v h1 h2 hD q qc g
    have e1 : h (l + 14) 2 = w 1 := (q.1.1 _ _ (by omega)).trans he
    have ee : e = w 1 := by omega
    refine w_iload f64_72 rfl ?_
    refine w_aloadn f64_74 rfl (by omega) ?_
    refine w_getR f64_75 (by assumption) rfl (by omega) ?_
    refine w_getI f64_78 (by decide) (by assumption) (by (try simp only [hput, hcopy, Nat.reduceEqDiff, Nat.add_left_cancel_iff, Nat.add_right_cancel_iff, Nat.left_eq_add, Nat.add_eq_left, Nat.right_eq_add, Nat.add_eq_right, Nat.reduceAdd, Nat.add_zero, Nat.succ_ne_self, Nat.one_ne_zero, Nat.zero_ne_one, eq_self, and_self, and_true, true_and, and_false, false_and, if_true, if_false, reduceIte, Int.reduceToNat, Int.toNat_natCast, e1]); exact rfl) ?_
    refine w_ic_ge (t := 179) f64_81 (by decide) (fun c1 => ?_) (fun c1 => by omega)
    rw [ee]
    exact g h _ q
  | succ n ih =>
    intro e T h v h1 h2 hD q qc g
    have e1 : h (l + 14) 2 = w 1 := (q.1.1 _ _ (by omega)).trans he
    have hv1 := hv.ot q.1.1 (by omega)
    have hI1 := hI.ot q.1.1 (by omega)
    have hE := hW.1.2.1
    have hr9 := vdt_r (e := e) hW.ft hc
    have hle := hD.le
    have hp := hD.1
    have hp2 := hD.2.2.1
    have hp3 := hD.2.1
    by_cases zv : (vdt w c e).1 = 0
    · have fr := fl_r hr9
      have e8 := q.2.1 _ hr9
      by_cases zn : T.1 (vdt w c e).2.2.toNat = -1
      · have hl9 := hD.lt hr9 zn
        have hT : dpP T (vdt w c e).2.2 = (udI T.1 (vdt w c e).2.2.toNat 0, udI T.2.1 T.2.2.1.toNat (vdt w c e).2.2, T.2.2.1 + 1, T.2.2.2 + 1) := if_pos zn
        have g2 : ∀ h1 v1, DRl h0 (dpE w c n (e + 1) (dpP T (vdt w c e).2.2)) h1 → Rn (ev 64 179 [AR 143, AR l, AR i, AR j, AI (dpE w c n (e + 1) (dpP T (vdt w c e).2.2)).2.2.1, AI (dpE w c n (e + 1) (dpP T (vdt w c e).2.2)).2.2.2, AI k, AI (w 1), v1] [] (KS r d, h1, R)) Q := by
          simp only [dpE, if_pos zv] at g
          exact g
        have z := fun h4 v4 q4 c4 => ih (e + 1) (dpP T (vdt w c e).2.2) h4 v4 (by omega) (by omega) (hD.go hr9) q4 c4 g2
        have e21 : (dpP T (vdt w c e).2.2).2.2.1 = T.2.2.1 + 1 := by rw [hT]
        have e22 : (dpP T (vdt w c e).2.2).2.2.2 = T.2.2.2 + 1 := by rw [hT]
        rw [e21, e22] at z
        refine w_iload f64_72 rfl ?_
        refine w_aloadn f64_74 rfl (by omega) ?_
        refine w_getR f64_75 (by assumption) rfl (by omega) ?_
        refine w_getI f64_78 (by decide) (by assumption) (by (try simp only [hput, hcopy, Nat.reduceEqDiff, Nat.add_left_cancel_iff, Nat.add_right_cancel_iff, Nat.left_eq_add, Nat.add_eq_left, Nat.right_eq_add, Nat.add_eq_right, Nat.reduceAdd, Nat.add_zero, Nat.succ_ne_self, Nat.one_ne_zero, Nat.zero_ne_one, eq_self, and_self, and_true, true_and, and_false, false_and, if_true, if_false, reduceIte, Int.reduceToNat, Int.toNat_natCast, e1]); exact rfl) ?_
        refine w_ic_ge (t := 179) f64_81 (by decide) (fun c1 => by omega) (fun c1 => ?_)
        refine w_aloadn f64_84 rfl (by omega) ?_
        refine w_getR f64_85 (by assumption) rfl (by omega) ?_
        refine w_aloadn f64_88 rfl (by omega) ?_
        refine w_aloadn f64_89 rfl (by omega) ?_
        refine w_aloadn f64_90 rfl (by omega) ?_
        refine w_getR f64_91 (by assumption) rfl (by omega) ?_
        refine w_iload f64_94 rfl ?_
        refine w_qV f64_96 (Or.inl rfl) rfl (by omega) (okd_of (by assumption)) rfl ⟨Nat.le_of_ble_eq_true rfl, rfl, Nat.le_of_ble_eq_true rfl⟩ (en69 _ _ _ _ _) (s69 (e := e) ks hl1 hi kc (by decide) (by omega) i0 (by decide) (by omega) (by omega) (by omega) hW hv1 hI1 qc hc) (fun o9 ho9 => ?_)
        obtain ⟨h2, p, rfl⟩ := ho9
        have q2 := q.fr (p.1.up (by decide) (by decide))
        refine w_bok (pv69 _ _) ?_
        refine w_aloadn f64_99 rfl (by omega) ?_
        refine w_getR f64_100 (by assumption) rfl (by omega) ?_
        refine w_getI f64_103 (by decide) (by assumption) (by exact p.2.1) ?_
        refine w_if_ne (t := 122) f64_106 (by decide) (fun c2 => by omega) (fun c2 => ?_)
        refine w_aloadn f64_109 rfl (by omega) ?_
        refine w_getR f64_110 (by assumption) rfl (by omega) ?_
        refine w_getR f64_113 (by assumption) rfl (by omega) ?_
        refine w_cV f64_116 (Or.inl rfl) rfl (by omega) (okd_of (by assumption)) rfl ⟨Nat.le_of_ble_eq_true rfl, rfl, Nat.le_of_ble_eq_true rfl⟩ (en2 _) (s2 (c := (vdt w c e).2.2) ⟨kd_153, kd_154⟩ (by decide) (p.2.2.2.2 zv) hr9) (pv2 _ _) ?_
        refine w_goto (t := 123) f64_119 (by decide) ?_
        refine w_istore f64_123 (Nat.le_of_ble_eq_true rfl) (sto_9_8 rfl) ?_
        refine w_iload f64_125 rfl ?_
        refine w_iconst (v := -1) f64_127 (by decide) ?_
        refine w_ic_eq (t := 173) f64_128 (by decide) (fun c3 => by omega) (fun c3 => ?_)
        refine w_aloadn f64_131 rfl (by omega) ?_
        refine w_getR f64_132 (by assumption) rfl (by omega) ?_
        refine w_iload f64_135 rfl ?_
        refine w_iald f64_137 (by assumption) (by omega) (by exact q2.2.1 _ hr9) ?_
        refine w_iconst (v := -1) f64_138 (by decide) ?_
        refine w_ic_ne (t := 173) f64_139 (by decide) (fun c4 => by omega) (fun c4 => ?_)
        refine w_iload f64_142 rfl ?_
        refine w_sipush (v := 10000) f64_144 (by decide) ?_
        refine w_ic_ge (t := 173) f64_147 (by decide) (fun c5 => by omega) (fun c5 => ?_)
        refine w_aloadn f64_150 rfl (by omega) ?_
        refine w_getR f64_151 (by assumption) rfl (by omega) ?_
        refine w_iload f64_154 rfl ?_
        refine w_iconst (v := 0) f64_156 (by decide) ?_
        refine w_iast f64_157 (by assumption) (by omega) ?_
        refine w_aloadn f64_158 rfl (by omega) ?_
        refine w_getR f64_159 (by assumption) rfl (by omega) ?_
        refine w_iload f64_162 rfl ?_
        refine w_iload f64_164 rfl ?_
        refine w_iast f64_166 (by assumption) (by omega) ?_
        refine w_iincn f64_167 rfl (by omega) (sto_9_4 rfl) ?_
        refine w_iincn f64_170 rfl (by omega) (sto_9_5 rfl) ?_
        refine w_iincn f64_173 rfl (by omega) (sto_9_7 rfl) ?_
        refine w_goto (t := 72) f64_176 (by decide) ?_
        exact z _ _ (q2.put hp3 hr9 zn) ((qc.ot p.1 (by decide)).fr (fun a y y1 y2 => (hput_k (by omega)).trans (hput_k (by omega))))
      · have g2 : ∀ h1 v1, DRl h0 (dpE w c n (e + 1) T) h1 → Rn (ev 64 179 [AR 143, AR l, AR i, AR j, AI (dpE w c n (e + 1) T).2.2.1, AI (dpE w c n (e + 1) T).2.2.2, AI k, AI (w 1), v1] [] (KS r d, h1, R)) Q := by
          simp only [dpE, if_pos zv] at g
          rw [show dpP T (vdt w c e).2.2 = T from if_neg zn] at g
          exact g
        have z := fun h4 v4 q4 c4 => ih (e + 1) T h4 v4 (by omega) (by omega) hD q4 c4 g2
        refine w_iload f64_72 rfl ?_
        refine w_aloadn f64_74 rfl (by omega) ?_
        refine w_getR f64_75 (by assumption) rfl (by omega) ?_
        refine w_getI f64_78 (by decide) (by assumption) (by (try simp only [hput, hcopy, Nat.reduceEqDiff, Nat.add_left_cancel_iff, Nat.add_right_cancel_iff, Nat.left_eq_add, Nat.add_eq_left, Nat.right_eq_add, Nat.add_eq_right, Nat.reduceAdd, Nat.add_zero, Nat.succ_ne_self, Nat.one_ne_zero, Nat.zero_ne_one, eq_self, and_self, and_true, true_and, and_false, false_and, if_true, if_false, reduceIte, Int.reduceToNat, Int.toNat_natCast, e1]); exact rfl) ?_
        refine w_ic_ge (t := 179) f64_81 (by decide) (fun c1 => by omega) (fun c1 => ?_)
        refine w_aloadn f64_84 rfl (by omega) ?_
        refine w_getR f64_85 (by assumption) rfl (by omega) ?_
        refine w_aloadn f64_88 rfl (by omega) ?_
        refine w_aloadn f64_89 rfl (by omega) ?_
        refine w_aloadn f64_90 rfl (by omega) ?_
        refine w_getR f64_91 (by assumption) rfl (by omega) ?_
        refine w_iload f64_94 rfl ?_
        refine w_qV f64_96 (Or.inl rfl) rfl (by omega) (okd_of (by assumption)) rfl ⟨Nat.le_of_ble_eq_true rfl, rfl, Nat.le_of_ble_eq_true rfl⟩ (en69 _ _ _ _ _) (s69 (e := e) ks hl1 hi kc (by decide) (by omega) i0 (by decide) (by omega) (by omega) (by omega) hW hv1 hI1 qc hc) (fun o9 ho9 => ?_)
        obtain ⟨h2, p, rfl⟩ := ho9
        have q2 := q.fr (p.1.up (by decide) (by decide))
        refine w_bok (pv69 _ _) ?_
        refine w_aloadn f64_99 rfl (by omega) ?_
        refine w_getR f64_100 (by assumption) rfl (by omega) ?_
        refine w_getI f64_103 (by decide) (by assumption) (by exact p.2.1) ?_
        refine w_if_ne (t := 122) f64_106 (by decide) (fun c2 => by omega) (fun c2 => ?_)
        refine w_aloadn f64_109 rfl (by omega) ?_
        refine w_getR f64_110 (by assumption) rfl (by omega) ?_
        refine w_getR f64_113 (by assumption) rfl (by omega) ?_
        refine w_cV f64_116 (Or.inl rfl) rfl (by omega) (okd_of (by assumption)) rfl ⟨Nat.le_of_ble_eq_true rfl, rfl, Nat.le_of_ble_eq_true rfl⟩ (en2 _) (s2 (c := (vdt w c e).2.2) ⟨kd_153, kd_154⟩ (by decide) (p.2.2.2.2 zv) hr9) (pv2 _ _) ?_
        refine w_goto (t := 123) f64_119 (by decide) ?_
        refine w_istore f64_123 (Nat.le_of_ble_eq_true rfl) (sto_9_8 rfl) ?_
        refine w_iload f64_125 rfl ?_
        refine w_iconst (v := -1) f64_127 (by decide) ?_
        refine w_ic_eq (t := 173) f64_128 (by decide) (fun c3 => by omega) (fun c3 => ?_)
        refine w_aloadn f64_131 rfl (by omega) ?_
        refine w_getR f64_132 (by assumption) rfl (by omega) ?_
        refine w_iload f64_135 rfl ?_
        refine w_iald f64_137 (by assumption) (by omega) (by exact q2.2.1 _ hr9) ?_
        refine w_iconst (v := -1) f64_138 (by decide) ?_
        refine w_ic_ne (t := 173) f64_139 (by decide) (fun c4 => ?_) (fun c4 => by omega)
        refine w_iincn f64_173 rfl (by omega) (sto_9_7 rfl) ?_
        refine w_goto (t := 72) f64_176 (by decide) ?_
        exact z _ _ q2 (qc.ot p.1 (by decide))
    · have g2 : ∀ h1 v1, DRl h0 (dpE w c n (e + 1) T) h1 → Rn (ev 64 179 [AR 143, AR l, AR i, AR j, AI (dpE w c n (e + 1) T).2.2.1, AI (dpE w c n (e + 1) T).2.2.2, AI k, AI (w 1), v1] [] (KS r d, h1, R)) Q := by
        simp only [dpE, if_neg zv] at g
        exact g
      have z := fun h4 v4 q4 c4 => ih (e + 1) T h4 v4 (by omega) (by omega) hD q4 c4 g2
      refine w_iload f64_72 rfl ?_
      refine w_aloadn f64_74 rfl (by omega) ?_
      refine w_getR f64_75 (by assumption) rfl (by omega) ?_
      refine w_getI f64_78 (by decide) (by assumption) (by (try simp only [hput, hcopy, Nat.reduceEqDiff, Nat.add_left_cancel_iff, Nat.add_right_cancel_iff, Nat.left_eq_add, Nat.add_eq_left, Nat.right_eq_add, Nat.add_eq_right, Nat.reduceAdd, Nat.add_zero, Nat.succ_ne_self, Nat.one_ne_zero, Nat.zero_ne_one, eq_self, and_self, and_true, true_and, and_false, false_and, if_true, if_false, reduceIte, Int.reduceToNat, Int.toNat_natCast, e1]); exact rfl) ?_
      refine w_ic_ge (t := 179) f64_81 (by decide) (fun c1 => by omega) (fun c1 => ?_)
      refine w_aloadn f64_84 rfl (by omega) ?_
      refine w_getR f64_85 (by assumption) rfl (by omega) ?_
      refine w_aloadn f64_88 rfl (by omega) ?_
      refine w_aloadn f64_89 rfl (by omega) ?_
      refine w_aloadn f64_90 rfl (by omega) ?_
      refine w_getR f64_91 (by assumption) rfl (by omega) ?_
      refine w_iload f64_94 rfl ?_
      refine w_qV f64_96 (Or.inl rfl) rfl (by omega) (okd_of (by assumption)) rfl ⟨Nat.le_of_ble_eq_true rfl, rfl, Nat.le_of_ble_eq_true rfl⟩ (en69 _ _ _ _ _) (s69 (e := e) ks hl1 hi kc (by decide) (by omega) i0 (by decide) (by omega) (by omega) (by omega) hW hv1 hI1 qc hc) (fun o9 ho9 => ?_)
      obtain ⟨h2, p, rfl⟩ := ho9
      have q2 := q.fr (p.1.up (by decide) (by decide))
      refine w_bok (pv69 _ _) ?_
      refine w_aloadn f64_99 rfl (by omega) ?_
      refine w_getR f64_100 (by assumption) rfl (by omega) ?_
      refine w_getI f64_103 (by decide) (by assumption) (by exact p.2.1) ?_
      refine w_if_ne (t := 122) f64_106 (by decide) (fun c2 => ?_) (fun c2 => by omega)
      refine w_iconst (v := -1) f64_122 (by decide) ?_
      refine w_istore f64_123 (Nat.le_of_ble_eq_true rfl) (sto_9_8 rfl) ?_
      refine w_iload f64_125 rfl ?_
      refine w_iconst (v := -1) f64_127 (by decide) ?_
      refine w_ic_eq (t := 173) f64_128 (by decide) (fun _ => ?_) (fun e9 => absurd e9 (by decide))
      refine w_iincn f64_173 rfl (by omega) (sto_9_7 rfl) ?_
      refine w_goto (t := 72) f64_176 (by decide) ?_
      exact z _ _ q2 (qc.ot p.1 (by decide))
theorem l64n {x y k : Int} {l i j : Nat} {v7 v8 : AV} {Q : Out → Prop} (hk : 0 ≤ k ∧ k ≤ 10001) (g : Rn (ev 64 39 [AR 143, AR l, AR i, AR j, AI x, AI y, AI (k + 1), v7, v8] [] σ) Q) : Rn (ev 64 179 [AR 143, AR l, AR i, AR j, AI x, AI y, AI k, v7, v8] [] σ) Q := by
  refine w_iincn f64_179 rfl (by omega) (sto_9_6 rfl) ?_
  refine w_goto (t := 39) f64_182 (by decide) ?_
  exact g
theorem l64o {h0 : Nat → Nat → Int} {l i j : Nat} (hl : ShRl (KS r d) l) (hi : ShIv (KS r d) i) (l0 : 155 ≤ l) (i0 : 0 < i) (j0 : 0 < j) (d3 : i + 5 ≤ 143) (hW : WFm w) (hv : RTr h0 l w) (hI : RIv h0 i w) (he : h0 (l + 14) 2 = w 1) : ∀ (n : Nat) (p : Int) (T : DT) (h : Nat → Nat → Int) (v7 v8 : AV), cat1 v7 = true → p + n = 10001 → DI T p → DRl h0 T h →
    Rn (ev 64 39 [AR 143, AR l, AR i, AR j, AI T.2.2.1, AI T.2.2.2, AI p, v7, v8] [] (KS r d, h, R)) (fun o => ∃ T1 h1, DRl h0 T1 h1 ∧ o = (.inl (AI (dpG w n T).2.2.2), (KS r d, h1, R))) := by
  intro n
  have k0 := @kd_143 r d
  have k3 := @kd_147 r d
  have k6 := @kd_150 r d
  have kc : ShCf (KS r d) 150 := ⟨kd_150, kd_151⟩
  induction n with
  | zero =>
    intro p T h v7 v8 q7 h1 hD q
    have hle := hD.le
    have hp2 := hD.2.2.1
    refine w_iload f64_39 rfl ?_
    refine w_sipush (v := 10000) f64_41 (by decide) ?_
    refine w_ic_ge (t := 185) f64_44 (by decide) (fun c1 => ?_) (fun c1 => by omega)
    refine w_iload f64_185 rfl ?_
    refine w_iret f64_187 rfl ?_
    exact ⟨T, h, q, rfl⟩
  | succ n ih =>
    intro p T h v7 v8 q7 h1 hD q
    have hle := hD.le
    have hp := hD.1
    have hp2 := hD.2.2.1
    have hp3 := hD.2.1
    by_cases z0 : 0 < T.2.2.1
    · have e3 := q.2.2 (T.2.2.1 + -1).toNat (by omega)
      have h9 := hD.2.2.2.2 (T.2.2.1 + -1).toNat (by omega)
      have hD2 : DI (dpT T) (p + 1) := ⟨by omega, by show 0 ≤ T.2.2.1 + -1; omega, by show T.2.2.1 + -1 + (p + 1) = T.2.2.2; omega, hD.2.2.2.1, fun i hi => hD.2.2.2.2 i (by have hi : (i : Int) < T.2.2.1 + -1 := hi; omega)⟩
      have q2 : DRl h0 (dpT T) h := ⟨q.1, q.2.1, fun i hi => q.2.2 i (by have hi : (i : Int) < T.2.2.1 + -1 := hi; omega)⟩
      have e9 : dpG w (n + 1) T = dpG w n (dpE w (T.2.1 (T.2.2.1 + -1).toNat) (w 1).toNat 0 (dpT T)) := by simp only [dpG]; rw [if_pos z0]
      rw [e9]
      have hE := hW.1.2.1
      refine w_iload f64_39 rfl ?_
      refine w_sipush (v := 10000) f64_41 (by decide) ?_
      refine w_ic_ge (t := 185) f64_44 (by decide) (fun c1 => by omega) (fun c1 => ?_)
      refine w_iload f64_47 rfl ?_
      refine w_if_le (t := 185) f64_49 (by decide) (fun c2 => by omega) (fun c2 => ?_)
      refine w_iincn f64_52 rfl (by omega) (sto_9_4 rfl) ?_
      refine w_aloadn f64_55 rfl (by omega) ?_
      refine w_getR f64_56 (by assumption) rfl (by omega) ?_
      refine w_aloadn f64_59 rfl (by omega) ?_
      refine w_getR f64_60 (by assumption) rfl (by omega) ?_
      refine w_iload f64_63 rfl ?_
      refine w_iald f64_65 (by assumption) (by omega) (by exact e3) ?_
      refine w_qV f64_66 (Or.inl rfl) rfl (by omega) (okd_of (by assumption)) rfl ⟨Nat.le_of_ble_eq_true rfl, rfl, Nat.le_of_ble_eq_true rfl⟩ (en3 _ _) (s3 kc (by decide) h9) (fun o9 ho9 => ?_)
      obtain ⟨h2, ⟨p1, p2⟩, rfl⟩ := ho9
      refine w_bok (pv3 _ _) ?_
      refine w_iconst (v := 0) f64_69 (by decide) ?_
      refine w_istore f64_70 (Nat.le_of_ble_eq_true rfl) (sto_9_7 rfl) ?_
      refine l64e hl hi l0 i0 j0 d3 hW hv hI he h9 (w 1).toNat 0 (dpT T) h2 _ (by omega) (by omega) hD2 (q2.fr (p1.up (by decide) (by decide))) p2 (fun h4 v4 q4 => ?_)
      exact l64n (by omega) (ih (p + 1) _ h4 _ _ rfl (by omega) (hD2.ev hW.ft h9 _ _ _) q4)
    · have e9 : dpG w (n + 1) T = T := by simp only [dpG]; rw [if_neg z0]
      rw [e9]
      refine w_iload f64_39 rfl ?_
      refine w_sipush (v := 10000) f64_41 (by decide) ?_
      refine w_ic_ge (t := 185) f64_44 (by decide) (fun c1 => ?_) (fun c1 => ?_)
      · refine w_iload f64_185 rfl ?_
        refine w_iret f64_187 rfl ?_
        exact ⟨T, h, q, rfl⟩
      · refine w_iload f64_47 rfl ?_
        refine w_if_le (t := 185) f64_49 (by decide) (fun c2 => ?_) (fun c2 => by omega)
        refine w_iload f64_185 rfl ?_
        refine w_iret f64_187 rfl ?_
        exact ⟨T, h, q, rfl⟩
theorem s64 {l i j : Nat} {c : Int} (hl : ShRl (KS r d) l) (hi : ShIv (KS r d) i) (hj : ShCf (KS r d) j) (l0 : 155 ≤ l) (i0 : 0 < i) (j0 : 0 < j) (d3 : i + 5 ≤ 143) (d4 : j + 2 ≤ 143) (hW : WFm w) (hv : RTr h l w) (hI : RIv h i w) (he : h (l + 14) 2 = w 1) (hw : hereW w = c) (hc : 0 ≤ c ∧ c ≤ 9999) (qc : RCf h j c) :
    Rn (ev 64 0 [AR 143, AR l, AR i, AR j, AU, AU, AU, AU, AU] [] (KS r d, h, R)) (fun o => ∃ h1, ((Ot 143 12 h h1 ∧ ∀ x y, 143 ≤ x → x ≤ 149 → x ≠ 147 → x ≠ 148 → h1 x y = h x y) ∧ True) ∧ o = (.inl (AI (dps w c)), (KS r d, h1, R))) := by
  have k0 := @kd_143 r d
  have k3 := @kd_147 r d
  have k4 := @kd_148 r d
  have j1 := hj.1
  have fr := fl_r hc
  have q0 : DRl h T0 (fiH h 148 10000 (-1)) := ⟨⟨Ot.rf.fi (by decide) (by decide), fun x y x1 x2 x3 x4 => fiH_k x4⟩, fun c2 hc2 => by have := fl_r hc2; exact fiH_in (by omega), fun i hi => absurd (show (i : Int) < 0 from hi) (by omega)⟩
  have q1 := q0.put (Int.le_refl _) hc rfl
  have e9 : hput (hput (fiH h 148 10000 (-1)) 147 0 (fl c)) 148 (fl c).toNat 0 = hput (hput (fiH h 148 10000 (-1)) 148 (fl c).toNat 0) 147 0 (fl c) := hput_c (Or.inl (by decide))
  have hE : (dpP T0 c).2.2.1 = 1 ∧ (dpP T0 c).2.2.2 = 1 := by
    rw [show dpP T0 c = (udI T0.1 c.toNat 0, udI T0.2.1 T0.2.2.1.toNat c, T0.2.2.1 + 1, T0.2.2.2 + 1) from if_pos rfl]
    exact ⟨rfl, rfl⟩
  have z := l64o (r := r) (d := d) (R := R) hl hi l0 i0 j0 d3 hW hv hI he 10001 0 (dpP T0 c) _ AU AU rfl (by omega) (DI_0.go hc) q1
  rw [hE.1, hE.2] at z
  have z2 := z.mono (Q1 := fun o => ∃ h1, ((Ot 143 12 h h1 ∧ ∀ x y, 143 ≤ x → x ≤ 149 → x ≠ 147 → x ≠ 148 → h1 x y = h x y) ∧ True) ∧ o = (.inl (AI (dps w c)), (KS r d, h1, R))) (fun o ⟨T1, h1, a1, a2⟩ => ⟨h1, ⟨a1.1, trivial⟩, a2⟩)
  refine w_aloadn f64_0 rfl (by omega) ?_
  refine w_getR f64_1 (by assumption) rfl (by omega) ?_
  refine w_iconst (v := -1) f64_4 (by decide) ?_
  refine w_cS f64_5 (Or.inl rfl) (Nat.le_of_ble_eq_true rfl) rfl rfl ⟨Nat.le_of_ble_eq_true rfl, rfl, Nat.le_of_ble_eq_true rfl⟩ (en284 _ _) (s284 k4 (by decide) (by decide)) (pv284 _ _) ?_
  refine w_iconst (v := 1) f64_8 (by decide) ?_
  refine w_istore f64_9 (Nat.le_of_ble_eq_true rfl) (sto_9_4 rfl) ?_
  refine w_iconst (v := 1) f64_11 (by decide) ?_
  refine w_istore f64_12 (Nat.le_of_ble_eq_true rfl) (sto_9_5 rfl) ?_
  refine w_aloadn f64_14 rfl (by omega) ?_
  refine w_getR f64_15 (by assumption) rfl (by omega) ?_
  refine w_iconst (v := 0) f64_18 (by decide) ?_
  refine w_aloadn f64_19 rfl (by omega) ?_
  refine w_cV f64_20 (Or.inl rfl) rfl (by omega) (okd_of (by assumption)) rfl ⟨Nat.le_of_ble_eq_true rfl, rfl, Nat.le_of_ble_eq_true rfl⟩ (en2 _) (s2 hj j0 (qc.fr (fun a y y1 y2 => fiH_k (by omega))) hc) (pv2 _ _) ?_
  refine w_iast f64_23 (by assumption) (by omega) ?_
  refine w_aloadn f64_24 rfl (by omega) ?_
  refine w_getR f64_25 (by assumption) rfl (by omega) ?_
  refine w_aloadn f64_28 rfl (by omega) ?_
  refine w_getR f64_29 (by assumption) rfl (by omega) ?_
  refine w_iconst (v := 0) f64_32 (by decide) ?_
  refine w_iald f64_33 (by assumption) (by omega) (by exact hput_s) ?_
  refine w_iconst (v := 0) f64_34 (by decide) ?_
  refine w_iast f64_35 (by assumption) (by omega) ?_
  refine w_iconst (v := 0) f64_36 (by decide) ?_
  refine w_istore f64_37 (Nat.le_of_ble_eq_true rfl) (sto_9_6 rfl) ?_
  rw [show (0 : Int).toNat = 0 from rfl, e9]
  exact z2
end A

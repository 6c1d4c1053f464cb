/-! the class's search, II: expand -/
section A
variable {K : List AKd} {h : Nat → Nat → Int} {R : R4} {σ : Sg} {r d : Nat} {w : Nat → Int} {b : Nat → Int} {n : Int}
def tkC (X : XC) (t : Int) : XC := (X.1, X.2.1, X.2.2.1, X.2.2.2.1, udI X.2.2.2.2 t.toNat 1)
def exC1 (w : Nat → Int) (c e : Int) (X : XC) : XC := if (vdt w c e).1 = 0 then fnC (tkC X (vdt w c e).2.1) (vdt w c e).2.2 (X.1.1 c.toNat + 1) (if X.2.1 c.toNat = -1 then e else X.2.1 c.toNat) else X
def exCG (w : Nat → Int) (c : Int) : Nat → Int → XC → XC
  | 0, _, X => X
  | n + 1, e, X => exCG w c n (e + 1) (exC1 w c e X)
def anyA (w : Nat → Int) (c : Int) : Nat → Int → Bool
  | 0, _ => false
  | n + 1, e => decide ((vdt w c e).1 = 0) || anyA w c n (e + 1)
theorem fnC_1 {X : XC} {c m e : Int} : (fnC X c m e).1 = rc X.1 c m := by
  unfold fnC
  by_cases z : X.1.1 c.toNat = -1
  · rw [if_pos z]
  · rw [if_neg z]
    exact (if_neg z).symm
theorem exC1_1 {c e : Int} {X : XC} : (exC1 w c e X).1 = if (vdt w c e).1 = 0 then rc X.1 (vdt w c e).2.2 (X.1.1 c.toNat + 1) else X.1 := by
  unfold exC1
  by_cases z : (vdt w c e).1 = 0
  · rw [if_pos z, if_pos z, fnC_1]
    rfl
  · rw [if_neg z, if_neg z]
theorem exCG_1 {c : Int} : ∀ (n : Nat) (e : Int) (X : XC), (exCG w c n e X).1 = exG w c n e X.1
  | 0, _, _ => rfl
  | n + 1, e, X => by
    show (exCG w c n (e + 1) (exC1 w c e X)).1 = exG w c n (e + 1) _
    rw [exCG_1 n, exC1_1]
theorem exC1_ok {c e : Int} {X : XC} (hf : WFt w) (h1 : 0 ≤ c ∧ c ≤ 9999) (hB : BI X.1) (hs : X.1.1 c.toNat ≠ -1) : BI (exC1 w c e X).1 ∧ (exC1 w c e X).1.1 c.toNat = X.1.1 c.toNat := by
  have a := exG_ok (w := w) hf h1 1 e X.1 hB hs
  rw [exC1_1]
  exact ⟨a.1, a.2.2.2 _ hs⟩
theorem SRl.tk {h0 : Nat → Nat → Int} {X : XC} {D E t : Int} (q : SRl h0 X D E h) (ht : 0 ≤ t ∧ t < 24) : SRl h0 (tkC X t) D E (hput h 146 t.toNat 1) := by
  obtain ⟨o, ⟨a1, a2, a3⟩, a4, a5, a6, a7⟩ := q
  refine ⟨o.put (by decide) (by decide), ⟨(hput_k (by decide)).trans a1, (hput_k (by decide)).trans a2, (hput_k (by decide)).trans a3⟩, fun y hy => ⟨(hput_k (by decide)).trans (a4 y hy).1, (hput_k (by decide)).trans (a4 y hy).2⟩, fun y hy => ?_, fun i hi => (hput_k (by decide)).trans (a6 i hi), fun c hc => ⟨(hput_k (by decide)).trans (a7 c hc).1, fun z => (hput_k (by decide)).trans ((a7 c hc).2 z)⟩⟩
  show _ = udI X.2.2.2.2 t.toNat 1 y
  unfold udI
  by_cases z : y = t.toNat
  · rw [if_pos z, z]; exact hput_s
  · rw [if_neg z, hput_j z]; exact a5 y hy
theorem SRl.pD {h0 : Nat → Nat → Int} {X : XC} {D E D1 E1 : Int} {h1 : Nat → Nat → Int} (q : SRl h0 X D E h) (o : Ot 143 12 h0 h1) (e2 : h1 143 2 = D1) (e3 : h1 143 3 = E1) (e : ∀ x y, ¬ (x = 143 ∧ (y = 2 ∨ y = 3)) → h1 x y = h x y) : SRl h0 X D1 E1 h1 := by
  obtain ⟨-, ⟨a1, a2, a3⟩, a4, a5, a6, a7⟩ := q
  exact ⟨o, ⟨(e _ _ (by decide)).trans a1, e2, e3⟩, fun y hy => ⟨(e _ _ (by omega)).trans (a4 y hy).1, (e _ _ (by omega)).trans (a4 y hy).2⟩, fun t ht => (e _ _ (by omega)).trans (a5 t ht), fun i hi => (e _ _ (by omega)).trans (a6 i hi), fun c hc => ⟨(e _ _ (by omega)).trans (a7 c hc).1, fun z => (e _ _ (by omega)).trans ((a7 c hc).2 z)⟩⟩
def exQ (r d : Nat) (R : R4) (h0 : Nat → Nat → Int) (X : XC) (D E : Int) : Out → Prop := fun o => ∃ h1, SRl h0 X D E h1 ∧ o = (.inl AU, (KS r d, h1, R))
theorem l63t {h0 : Nat → Nat → Int} {X : XC} {D E c e x : Int} {l i : Nat} (hx : x = 0 ∨ x = 1) (q : SRl h0 X D E h) (hD : 0 ≤ D ∧ D ≤ 10000) (hc : 0 ≤ c ∧ c ≤ 9999) (hB : BI X.1) : Rn (ev 63 116 [AR 143, AR l, AR i, AI (fl c), AI x, AI e] [] (KS r d, h, R)) (exQ r d R h0 X (if x = 1 then D + 1 else D) (if x = 1 ∧ E = -1 then X.1.1 c.toNat else E)) := by
  have q1 := q
  obtain ⟨o, ⟨a1, a2, a3⟩, a4, a5, a6, a7⟩ := q
  have k0 := @kd_143 r d
  have k4 := @kd_148 r d
  have fr := fl_r hc
  have a8 := (a7 c hc).1
  rcases hx with hx | hx
  · rw [if_neg (by omega), if_neg (by omega)]
    refine w_iload f63_116 rfl ?_
    refine w_if_eq (t := 149) f63_118 (by decide) (fun c1 => ?_) (fun c1 => by omega)
    refine w_ret f63_149 rfl ?_
    exact ⟨h, q1, rfl⟩
  · rw [if_pos hx]
    refine w_iload f63_116 rfl ?_
    refine w_if_eq (t := 149) f63_118 (by decide) (fun c1 => by omega) (fun c1 => ?_)
    refine w_aloadn f63_121 rfl (by omega) ?_
    refine w_dup f63_122 rfl ?_
    refine w_getI f63_123 (by decide) (by assumption) (by exact a2) ?_
    refine w_iconst (v := 1) f63_126 (by decide) ?_
    refine w_iaddn f63_127 (by omega) ?_
    refine w_putI f63_128 (by assumption) ?_
    refine w_aloadn f63_131 rfl (by omega) ?_
    refine w_getI f63_132 (by decide) (by assumption) (by exact (hput_j (by decide)).trans a3) ?_
    refine w_iconst (v := -1) f63_135 (by decide) ?_
    refine w_ic_ne (t := 149) f63_136 (by decide) (fun c2 => ?_) (fun c2 => ?_)
    · refine w_ret f63_149 rfl ?_
      first | (rw [if_pos ⟨hx, by assumption⟩]; exact ⟨_, q1.pD ((o.put (by decide) (by decide)).put (by decide) (by decide)) ((hput_j (by decide)).trans hput_s) hput_s (fun a y z => (if_neg (by omega)).trans (if_neg (by omega))), rfl⟩) | (rw [if_neg (by omega)]; exact ⟨_, q1.pD (o.put (by decide) (by decide)) hput_s ((hput_j (by decide)).trans a3) (fun a y z => if_neg (by omega)), rfl⟩)
    · refine w_aloadn f63_139 rfl (by omega) ?_
      refine w_aloadn f63_140 rfl (by omega) ?_
      refine w_getR f63_141 (by assumption) rfl (by omega) ?_
      refine w_iloadn f63_144 rfl ?_
      refine w_iald f63_145 (by assumption) (by omega) (by exact (hput_k (by decide)).trans a8) ?_
      refine w_putI f63_146 (by assumption) ?_
      refine w_ret f63_149 rfl ?_
      first | (rw [if_pos ⟨hx, by assumption⟩]; exact ⟨_, q1.pD ((o.put (by decide) (by decide)).put (by decide) (by decide)) ((hput_j (by decide)).trans hput_s) hput_s (fun a y z => (if_neg (by omega)).trans (if_neg (by omega))), rfl⟩) | (rw [if_neg (by omega)]; exact ⟨_, q1.pD (o.put (by decide) (by decide)) hput_s ((hput_j (by decide)).trans a3) (fun a y z => if_neg (by omega)), rfl⟩)
theorem l63 {h0 : Nat → Nat → Int} {c D E : Int} {l i : Nat} (hl : ShRl (KS r d) l) (hi : ShIv (KS r d) i) (l0 : 155 ≤ l) (i0 : 0 < i) (d3 : i + 5 ≤ 143) (hW : WFm w) (hv : RTr h0 l w) (hI : RIv h0 i w) (he : h0 (l + 14) 2 = w 1) (hc : 0 ≤ c ∧ c ≤ 9999) (hD : 0 ≤ D ∧ D ≤ 10000) : ∀ (n : Nat) (e x : Int) (X : XC) (h : Nat → Nat → Int), 0 ≤ e → e + n = w 1 → (x = 0 ∨ x = 1) → SRl h0 X D E h → RCf h 150 c → BI X.1 → X.1.1 c.toNat ≠ -1 →
    Rn (ev 63 14 [AR 143, AR l, AR i, AI (fl c), AI x, AI e] [] (KS r d, h, R)) (exQ r d R h0 (exCG w c n e X) (if x = 1 ∧ anyA w c n e = false then D + 1 else D) (if (x = 1 ∧ anyA w c n e = false) ∧ E = -1 then X.1.1 c.toNat else E)) := by
  intro n
  have hl1 := hl
  obtain ⟨l1, -, n2, -⟩ := hl
  have n21 := n2.1
  have k0 := @kd_143 r d
  have k3 := @kd_146 r d
  have k4 := @kd_148 r d
  have k5 := @kd_149 r d
  have k6 := @kd_150 r d
  have k7 := @kd_152 r d
  have k8 := @kd_153 r d
  have ks : ShSp (KS r d) 152 := ⟨kd_152, kd_153, kd_154⟩
  have kc : ShCf (KS r d) 150 := ⟨kd_150, kd_151⟩
  have fr := fl_r hc
  induction n with
  | zero =>
    intro e x X h h1 h2 hx q qc hB hs
    have e1 : h (l + 14) 2 = w 1 := (q.1 _ _ (by omega)).trans he
    have z := l63t (l := l) (i := i) (e := e) (r := r) (d := d) (R := R) hx q hD hc hB
    have f1 : (x = 1 ∧ anyA w c 0 e = false) ↔ x = 1 := ⟨fun y => y.1, fun y => ⟨y, rfl⟩⟩
    rw [show (if x = 1 ∧ anyA w c 0 e = false then D + 1 else D) = (if x = 1 then D + 1 else D) by simp only [f1], show (if (x = 1 ∧ anyA w c 0 e = false) ∧ E = -1 then X.1.1 c.toNat else E) = (if x = 1 ∧ E = -1 then X.1.1 c.toNat else E) by simp only [f1]]
    refine w_iload f63_14 rfl ?_
    refine w_aloadn f63_16 rfl (by omega) ?_
    refine w_getR f63_17 (by assumption) rfl (by omega) ?_
    refine w_getI f63_20 (by decide) (by assumption) (by (try simp only [hput, hcopy, Nat.reduceEqDiff, Nat.add_left_cancel_iff, Nat.add_right_cancel_iff, Nat.left_eq_add, Nat.add_eq_left, Nat.right_eq_add, Nat.add_eq_right, Nat.reduceAdd, Nat.add_zero, Nat.succ_ne_self, Nat.one_ne_zero, Nat.zero_ne_one, eq_self, and_self, and_true, true_and, and_false, false_and, if_true, if_false, reduceIte, Int.reduceToNat, Int.toNat_natCast, e1]); exact rfl) ?_
    refine w_ic_ge (t := 116) f63_23 (by decide) (fun c1 => ?_) (fun c1 => by omega)
    exact z
  | succ n ih =>
    intro e x X h h1 h2 hx q qc hB hs
    have e1 : h (l + 14) 2 = w 1 := (q.1 _ _ (by omega)).trans he
    have hv1 := hv.ot q.1 (by omega)
    have hI1 := hI.ot q.1 (by omega)
    have hE := hW.1.2.1
    obtain ⟨ok1, ok2⟩ := exC1_ok (e := e) hW.ft hc hB hs
    have hv9 := vdt_v (w := w) (c := c) (e := e) hW.1.2.2.2.1.1
    have hr9 := vdt_r (e := e) hW.ft hc
    have b1 := hB.2.1 c.toNat (by omega)
    have b2 := hB.n
    have h3 := hW.1.2.2.2.1
    by_cases zv : (vdt w c e).1 = 0
    · have ea : anyA w c (n + 1) e = true := by simp only [anyA]; rw [decide_eq_true zv]; rfl
      have t2 := hv9.2 zv
      have ht : 0 ≤ (vdt w c e).2.1 ∧ (vdt w c e).2.1 < 24 := ⟨t2.1, by have := t2.2.1; omega⟩
      have eX : exC1 w c e X = fnC (tkC X (vdt w c e).2.1) (vdt w c e).2.2 (X.1.1 c.toNat + 1) (if X.2.1 c.toNat = -1 then e else X.2.1 c.toNat) := if_pos zv
      have z := fun h4 q4 c4 => ih (e + 1) 0 (exC1 w c e X) h4 (by omega) (by omega) (Or.inl rfl) q4 c4 ok1 (by rw [ok2]; exact hs)
      rw [if_neg (by omega), if_neg (by omega)] at z
      rw [show (if x = 1 ∧ anyA w c (n + 1) e = false then D + 1 else D) = D by rw [ea, if_neg (fun y => absurd y.2 (by decide))], show (if (x = 1 ∧ anyA w c (n + 1) e = false) ∧ E = -1 then X.1.1 c.toNat else E) = E by rw [ea, if_neg (fun y => absurd y.1.2 (by decide))]]
      have prep : ∀ h2, AtR h 152 w (vdt w c e) h2 → SRl h0 (tkC X (vdt w c e).2.1) D E (hput h2 146 (vdt w c e).2.1.toNat 1) ∧ RCf (hput h2 146 (vdt w c e).2.1.toNat 1) 150 c ∧ RCf (hput h2 146 (vdt w c e).2.1.toNat 1) 153 (vdt w c e).2.2 := fun h2 p => by
        obtain ⟨p1, p2, p3, p4, p5⟩ := p
        exact ⟨(q.fr (q.1.tr (p1.up (by decide) (by decide))) (fun a y y1 y2 => p1 a y (by omega))).tk ht, (qc.ot p1 (by decide)).fr (fun a y y1 y2 => hput_k (by omega)), (p5 zv).fr (fun a y y1 y2 => hput_k (by omega))⟩
      refine w_iload f63_14 rfl ?_
      refine w_aloadn f63_16 rfl (by omega) ?_
      refine w_getR f63_17 (by assumption) rfl (by omega) ?_
      refine w_getI f63_20 (by decide) (by assumption) (by (try simp only [hput, hcopy, Nat.reduceEqDiff, Nat.add_left_cancel_iff, Nat.add_right_cancel_iff, Nat.left_eq_add, Nat.add_eq_left, Nat.right_eq_add, Nat.add_eq_right, Nat.reduceAdd, Nat.add_zero, Nat.succ_ne_self, Nat.one_ne_zero, Nat.zero_ne_one, eq_self, and_self, and_true, true_and, and_false, false_and, if_true, if_false, reduceIte, Int.reduceToNat, Int.toNat_natCast, e1]); exact rfl) ?_
      refine w_ic_ge (t := 116) f63_23 (by decide) (fun c1 => by omega) (fun c1 => ?_)
      refine w_aloadn f63_26 rfl (by omega) ?_
      refine w_getR f63_27 (by assumption) rfl (by omega) ?_
      refine w_aloadn f63_30 rfl (by omega) ?_
      refine w_aloadn f63_31 rfl (by omega) ?_
      refine w_aloadn f63_32 rfl (by omega) ?_
      refine w_getR f63_33 (by assumption) rfl (by omega) ?_
      refine w_iload f63_36 rfl ?_
      refine w_qV f63_38 (Or.inl rfl) rfl (by omega) (okd_of (by assumption)) rfl ⟨Nat.le_of_ble_eq_true rfl, rfl, Nat.le_of_ble_eq_true rfl⟩ (en69 _ _ _ _ _) (s69 (e := e) ks hl1 hi kc (by decide) (by omega) i0 (by decide) (by omega) (by omega) (by omega) hW hv1 hI1 qc hc) (fun o9 ho9 => ?_)
      obtain ⟨h2, p, rfl⟩ := ho9
      obtain ⟨y1, y2, y3⟩ := prep _ p
      refine w_bok (pv69 _ _) ?_
      refine w_aloadn f63_41 rfl (by omega) ?_
      refine w_getR f63_42 (by assumption) rfl (by omega) ?_
      refine w_getI f63_45 (by decide) (by assumption) (by exact p.2.1) ?_
      refine w_if_ne (t := 110) f63_48 (by decide) (fun c2 => by omega) (fun c2 => ?_)
      refine w_iconst (v := 0) f63_51 (by decide) ?_
      refine w_istore f63_52 (Nat.le_of_ble_eq_true rfl) (sto_6_4 rfl) ?_
      refine w_aloadn f63_54 rfl (by omega) ?_
      refine w_getR f63_55 (by assumption) rfl (by omega) ?_
      refine w_aloadn f63_58 rfl (by omega) ?_
      refine w_getR f63_59 (by assumption) rfl (by omega) ?_
      refine w_getI f63_62 (by decide) (by assumption) (by exact p.2.2.1) ?_
      refine w_iconst (v := 1) f63_65 (by decide) ?_
      refine w_bast f63_66 (by assumption) (by omega) (by decide) ?_
      refine w_aloadn f63_67 rfl (by omega) ?_
      refine w_aloadn f63_68 rfl (by omega) ?_
      refine w_getR f63_69 (by assumption) rfl (by omega) ?_
      refine w_getR f63_72 (by assumption) rfl (by omega) ?_
      refine w_cV f63_75 (Or.inl rfl) rfl (by omega) (okd_of (by assumption)) rfl ⟨Nat.le_of_ble_eq_true rfl, rfl, Nat.le_of_ble_eq_true rfl⟩ (en2 _) (s2 (c := (vdt w c e).2.2) ⟨kd_153, kd_154⟩ (by decide) y3 hr9) (pv2 _ _) ?_
      refine w_aloadn f63_78 rfl (by omega) ?_
      refine w_getR f63_79 (by assumption) rfl (by omega) ?_
      refine w_iloadn f63_82 rfl ?_
      refine w_iald f63_83 (by assumption) (by omega) (by exact show _ = X.1.1 c.toNat from (y1.2.2.2.2.2 c hc).1) ?_
      refine w_iconst (v := 1) f63_84 (by decide) ?_
      refine w_iaddn f63_85 (by omega) ?_
      refine w_aloadn f63_86 rfl (by omega) ?_
      refine w_getR f63_87 (by assumption) rfl (by omega) ?_
      refine w_iloadn f63_90 rfl ?_
      refine w_iald f63_91 (by assumption) (by omega) (by exact show _ = X.2.1 c.toNat from (y1.2.2.2.2.2 c hc).2 hs) ?_
      refine w_iconst (v := -1) f63_92 (by decide) ?_
      refine w_ic_ne (t := 101) f63_93 (by decide) (fun c3 => ?_) (fun c3 => ?_)
      · refine w_aloadn f63_101 rfl (by omega) ?_
        refine w_getR f63_102 (by assumption) rfl (by omega) ?_
        refine w_iloadn f63_105 rfl ?_
        refine w_iald f63_106 (by assumption) (by omega) (by exact show _ = X.2.1 c.toNat from (y1.2.2.2.2.2 c hc).2 hs) ?_
        refine w_qV f63_107 (Or.inl rfl) rfl (by omega) (okd_of (by assumption)) rfl ⟨Nat.le_of_ble_eq_true rfl, rfl, Nat.le_of_ble_eq_true rfl⟩ (en62 _ _ _ _) (s62 y1 hB hr9) (fun o9 ho9 => ?_)
        obtain ⟨h4, ⟨u1, u2⟩, rfl⟩ := ho9
        refine w_bok (pv62 _ _) ?_
        refine w_iincn f63_110 rfl (by omega) (sto_6_5 rfl) ?_
        refine w_goto (t := 14) f63_113 (by decide) ?_
        refine z _ ?_ (y2.fr (fun a y y1 y2 => u2 a y (by omega)))
        rw [eX]
        first | (rw [if_pos (show X.2.1 c.toNat = -1 by assumption)]; exact u1) | (rw [if_neg (show ¬ X.2.1 c.toNat = -1 by assumption)]; exact u1)
      · refine w_iload f63_96 rfl ?_
        refine w_goto (t := 107) f63_98 (by decide) ?_
        refine w_qV f63_107 (Or.inl rfl) rfl (by omega) (okd_of (by assumption)) rfl ⟨Nat.le_of_ble_eq_true rfl, rfl, Nat.le_of_ble_eq_true rfl⟩ (en62 _ _ _ _) (s62 y1 hB hr9) (fun o9 ho9 => ?_)
        obtain ⟨h4, ⟨u1, u2⟩, rfl⟩ := ho9
        refine w_bok (pv62 _ _) ?_
        refine w_iincn f63_110 rfl (by omega) (sto_6_5 rfl) ?_
        refine w_goto (t := 14) f63_113 (by decide) ?_
        refine z _ ?_ (y2.fr (fun a y y1 y2 => u2 a y (by omega)))
        rw [eX]
        first | (rw [if_pos (show X.2.1 c.toNat = -1 by assumption)]; exact u1) | (rw [if_neg (show ¬ X.2.1 c.toNat = -1 by assumption)]; exact u1)
    · have ea : anyA w c (n + 1) e = anyA w c n (e + 1) := by simp only [anyA]; rw [decide_eq_false zv]; rfl
      have eX : exC1 w c e X = X := if_neg zv
      have z := fun h4 q4 c4 => ih (e + 1) x X h4 (by omega) (by omega) hx q4 c4 hB hs
      rw [ea]
      show Rn _ (exQ r d R h0 (exCG w c n (e + 1) (exC1 w c e X)) _ _)
      rw [eX]
      refine w_iload f63_14 rfl ?_
      refine w_aloadn f63_16 rfl (by omega) ?_
      refine w_getR f63_17 (by assumption) rfl (by omega) ?_
      refine w_getI f63_20 (by decide) (by assumption) (by (try simp only [hput, hcopy, Nat.reduceEqDiff, Nat.add_left_cancel_iff, Nat.add_right_cancel_iff, Nat.left_eq_add, Nat.add_eq_left, Nat.right_eq_add, Nat.add_eq_right, Nat.reduceAdd, Nat.add_zero, Nat.succ_ne_self, Nat.one_ne_zero, Nat.zero_ne_one, eq_self, and_self, and_true, true_and, and_false, false_and, if_true, if_false, reduceIte, Int.reduceToNat, Int.toNat_natCast, e1]); exact rfl) ?_
      refine w_ic_ge (t := 116) f63_23 (by decide) (fun c1 => by omega) (fun c1 => ?_)
      refine w_aloadn f63_26 rfl (by omega) ?_
      refine w_getR f63_27 (by assumption) rfl (by omega) ?_
      refine w_aloadn f63_30 rfl (by omega) ?_
      refine w_aloadn f63_31 rfl (by omega) ?_
      refine w_aloadn f63_32 rfl (by omega) ?_
      refine w_getR f63_33 (by assumption) rfl (by omega) ?_
      refine w_iload f63_36 rfl ?_
      refine w_qV f63_38 (Or.inl rfl) rfl (by omega) (okd_of (by assumption)) rfl ⟨Nat.le_of_ble_eq_true rfl, rfl, Nat.le_of_ble_eq_true rfl⟩ (en69 _ _ _ _ _) (s69 (e := e) ks hl1 hi kc (by decide) (by omega) i0 (by decide) (by omega) (by omega) (by omega) hW hv1 hI1 qc hc) (fun o9 ho9 => ?_)
      obtain ⟨h2, p, rfl⟩ := ho9
      refine w_bok (pv69 _ _) ?_
      refine w_aloadn f63_41 rfl (by omega) ?_
      refine w_getR f63_42 (by assumption) rfl (by omega) ?_
      refine w_getI f63_45 (by decide) (by assumption) (by exact p.2.1) ?_
      refine w_if_ne (t := 110) f63_48 (by decide) (fun c2 => ?_) (fun c2 => by omega)
      refine w_iincn f63_110 rfl (by omega) (sto_6_5 rfl) ?_
      refine w_goto (t := 14) f63_113 (by decide) ?_
      exact z _ (q.fr (q.1.tr (p.1.up (by decide) (by decide))) (fun a y y1 y2 => p.1 a y (by omega))) (qc.ot p.1 (by decide))
theorem s63 {h0 : Nat → Nat → Int} {c D E : Int} {l i : Nat} {X : XC} (hl : ShRl (KS r d) l) (hi : ShIv (KS r d) i) (l0 : 155 ≤ l) (i0 : 0 < i) (d3 : i + 5 ≤ 143) (hW : WFm w) (hv : RTr h0 l w) (hI : RIv h0 i w) (he : h0 (l + 14) 2 = w 1) (hc : 0 ≤ c ∧ c ≤ 9999) (hD : 0 ≤ D ∧ D ≤ 10000) (q : SRl h0 X D E h) (hB : BI X.1) (hs : X.1.1 c.toNat ≠ -1) :
    Rn (ev 63 0 [AR 143, AR l, AR i, AI (fl c), AU, AU] [] (KS r d, h, R)) (exQ r d R h0 (exCG w c (w 1).toNat 0 X) (if anyA w c (w 1).toNat 0 = false then D + 1 else D) (if anyA w c (w 1).toNat 0 = false ∧ E = -1 then X.1.1 c.toNat else E)) := by
  have k0 := @kd_143 r d
  have k6 := @kd_150 r d
  have hE := hW.1.2.1
  have z := fun h2 q2 c2 => l63 (R := R) (E := E) hl hi l0 i0 d3 hW hv hI he hc hD (w 1).toNat 0 1 X h2 (by omega) (by omega) (Or.inr rfl) q2 c2 hB hs
  simp only [true_and] at z
  refine w_aloadn f63_0 rfl (by omega) ?_
  refine w_getR f63_1 (by assumption) rfl (by omega) ?_
  refine w_iloadn f63_4 rfl ?_
  refine w_qV f63_5 (Or.inl rfl) rfl (by omega) (okd_of (by assumption)) rfl ⟨Nat.le_of_ble_eq_true rfl, rfl, Nat.le_of_ble_eq_true rfl⟩ (en3 _ _) (s3 ⟨kd_150, kd_151⟩ (by decide) hc) (fun o9 ho9 => ?_)
  obtain ⟨h2, ⟨p1, p2⟩, rfl⟩ := ho9
  refine w_bok (pv3 _ _) ?_
  refine w_iconst (v := 1) f63_8 (by decide) ?_
  refine w_istore f63_9 (Nat.le_of_ble_eq_true rfl) (sto_6_4 rfl) ?_
  refine w_iconst (v := 0) f63_11 (by decide) ?_
  refine w_istore f63_12 (Nat.le_of_ble_eq_true rfl) (sto_6_5 rfl) ?_
  exact z _ (q.fr (q.1.tr (p1.up (by decide) (by decide))) (fun a y y1 y2 => p1 a y (by omega))) p2
end A

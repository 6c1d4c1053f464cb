/-! the search in depth, the reference's; sums; isConsistent -/
section A
variable {K : List AKd} {h : Nat → Nat → Int} {R : R4} {σ : Sg} {r d : Nat} {w : Nat → Int}
/-- seen (-1: not), the stack, its height, how many were seen -/
abbrev DT : Type := (Nat → Int) × (Nat → Int) × Int × Int
def dpP (T : DT) (x : Int) : DT := if T.1 x.toNat = -1 then (udI T.1 x.toNat 0, udI T.2.1 T.2.2.1.toNat x, T.2.2.1 + 1, T.2.2.2 + 1) else T
def dpE (w : Nat → Int) (at_ : Int) : Nat → Int → DT → DT
  | 0, _, T => T
  | n + 1, e, T => dpE w at_ n (e + 1) (if (vdt w at_ e).1 = 0 then dpP T (vdt w at_ e).2.2 else T)
def dpT (T : DT) : DT := (T.1, T.2.1, T.2.2.1 + -1, T.2.2.2)
def dpG (w : Nat → Int) : Nat → DT → DT
  | 0, T => T
  | n + 1, T => if 0 < T.2.2.1 then dpG w n (dpE w (T.2.1 (T.2.2.1 + -1).toNat) (w 1).toNat 0 (dpT T)) else T
def T0 : DT := (fun _ => -1, fun _ => 0, 0, 0)
def dps (w : Nat → Int) (c : Int) : Int := (dpG w 10001 (dpP T0 c)).2.2.2
def DI (T : DT) (p : Int) : Prop := 0 ≤ p ∧ 0 ≤ T.2.2.1 ∧ T.2.2.1 + p = T.2.2.2 ∧ T.2.2.2 = cnt T.1 10000 ∧ ∀ i : Nat, (i : Int) < T.2.2.1 → 0 ≤ T.2.1 i ∧ T.2.1 i ≤ 9999
theorem DI.le {T : DT} {p : Int} (hD : DI T p) : T.2.2.2 ≤ 10000 := by
  have := cnt_le (s := T.1) 10000
  have := hD.2.2.2.1
  omega
theorem DI.lt {T : DT} {p x : Int} (hD : DI T p) (h1 : 0 ≤ x ∧ x ≤ 9999) (h2 : T.1 x.toNat = -1) : T.2.2.2 ≤ 9999 := by
  have := cnt_lt h2 10000 (by omega)
  have := hD.2.2.2.1
  omega
theorem DI.go {T : DT} {p x : Int} (hD : DI T p) (h1 : 0 ≤ x ∧ x ≤ 9999) : DI (dpP T x) p := by
  unfold dpP
  split
  · next h2 =>
    obtain ⟨a1, a2, a3, a4, a5⟩ := hD
    refine ⟨a1, by show 0 ≤ T.2.2.1 + 1; omega, by show T.2.2.1 + 1 + p = T.2.2.2 + 1; omega, ?_, fun i hi => ?_⟩
    · show T.2.2.2 + 1 = ((cnt (udI T.1 x.toNat 0) 10000 : Nat) : Int)
      rw [cnt_upd h2 (by decide) 10000 (by omega)]
      omega
    · have hi : (i : Int) < T.2.2.1 + 1 := hi
      show 0 ≤ udI T.2.1 T.2.2.1.toNat x i ∧ udI T.2.1 T.2.2.1.toNat x i ≤ 9999
      unfold udI
      split
      · exact h1
      · exact a5 i (by omega)
  · exact hD
theorem DI.ev {at_ : Int} (hf : WFt w) (h1 : 0 ≤ at_ ∧ at_ ≤ 9999) {p : Int} : ∀ (n : Nat) (e : Int) (T : DT), DI T p → DI (dpE w at_ n e T) p := by
  intro n
  induction n with
  | zero => intro e T hD; exact hD
  | succ n ih =>
    intro e T hD
    show DI (dpE w at_ n (e + 1) _) p
    split
    · exact ih _ _ (hD.go (vdt_r hf h1))
    · exact ih _ _ hD
/-- the heap in a search in depth -/
def DR (h0 : Nat → Nat → Int) (T : DT) (h : Nat → Nat → Int) : Prop := Scr h0 h ∧ (∀ y, y < 10000 → h 279 y = if T.1 y = -1 then 0 else 1) ∧ ∀ y : Nat, (y : Int) < T.2.2.1 → h 280 y = T.2.1 y
theorem DR.setv {h0 : Nat → Nat → Int} {T : DT} {a b : Int} (hR : DR h0 T h) : DR h0 T (setv h a b) := by
  obtain ⟨q1, q2, q3⟩ := hR
  refine ⟨q1.tr setv_S, fun y hy => ?_, fun y hy => ?_⟩
  · rw [setv_w (k := 279) rfl (by decide)]; exact q2 y hy
  · rw [setv_w (k := 280) rfl (by decide)]; exact q3 y hy
theorem DR.put {h0 : Nat → Nat → Int} {T : DT} {p x : Int} (hR : DR h0 T h) (hD : DI T p) (h1 : 0 ≤ x ∧ x ≤ 9999) (h2 : T.1 x.toNat = -1) : DR h0 (dpP T x) (hput (hput h 279 x.toNat 1) 280 T.2.2.1.toNat x) := by
  obtain ⟨q1, q2, q3⟩ := hR
  have a2 := hD.2.1
  unfold dpP
  rw [if_pos h2]
  refine ⟨fun a b z => ?_, fun y hy => ?_, fun y hy => ?_⟩
  · rw [hput_k (by unfold scr at z; omega), hput_k (by unfold scr at z; omega)]
    exact q1 a b z
  · rw [hput_k (by decide)]
    show hput h 279 x.toNat 1 279 y = if udI T.1 x.toNat 0 y = -1 then 0 else 1
    unfold hput udI
    by_cases e : y = x.toNat
    · rw [if_pos ⟨rfl, e⟩, if_pos e]; rfl
    · rw [if_neg (fun z => e z.2), if_neg e]; exact q2 y hy
  · have hy : (y : Int) < T.2.2.1 + 1 := hy
    show hput (hput h 279 x.toNat 1) 280 T.2.2.1.toNat x 280 y = udI T.2.1 T.2.2.1.toNat x y
    by_cases e : y = T.2.2.1.toNat
    · subst e
      rw [hput_s]
      exact (if_pos rfl).symm
    · rw [hput_j e, hput_k (by decide), q3 y (by omega)]
      exact (if_neg e).symm
theorem l268e {h0 : Nat → Nat → Int} {at_ p : Int} (hw0 : h0 269 = w) (hE : w 1 ≤ 8) (hf : WFt w) (h1 : 0 ≤ at_ ∧ at_ ≤ 9999) {Q : Out → Prop} : ∀ (n : Nat) (e : Int) (T : DT) (h : Nat → Nat → Int), 0 ≤ e → e + n = w 1 → DI T p → DR h0 T h →
    (∀ h1, DR h0 (dpE w at_ n e T) h1 → Rn (ev 268 131 [AR 268, AI (dpE w at_ n e T).2.2.1, AI (dpE w at_ n e T).2.2.2, AI at_, AI (w 1)] [] (KS r d, h1, R)) Q) →
    Rn (ev 268 63 [AR 268, AI T.2.2.1, AI T.2.2.2, AI at_, AI e] [] (KS r d, h, R)) Q := by
  intro n
  have k0 := @kd_268 r d
  have k1 := @kd_269 r d
  have k2 := @kd_279 r d
  have k3 := @kd_280 r d
  induction n with
  | zero =>
    intro e T h h2 h3 hD hR g
    have hw := hR.1.hw hw0
    refine w_iload f268_63 rfl ?_
    refine w_aloadn f268_65 rfl (by omega) ?_
    refine w_getR f268_66 (by assumption) rfl (by omega) ?_
    refine w_iconst (v := 1) f268_69 (by decide) ?_
    refine w_iald f268_70 (by assumption) (by omega) (by (try simp only [hput, hcopy, Nat.reduceEqDiff, Nat.add_left_cancel_iff, Nat.add_right_cancel_iff, Nat.left_eq_add, Nat.add_eq_left, Nat.right_eq_add, Nat.add_eq_right, Nat.reduceAdd, Nat.add_zero, Nat.succ_ne_self, Nat.one_ne_zero, Nat.zero_ne_one, eq_self, and_self, and_true, true_and, and_false, false_and, if_true, if_false, reduceIte, Int.reduceToNat, Int.toNat_natCast, hw]); exact rfl) ?_
    refine w_ic_ge (t := 131) f268_71 (by decide) (fun c1 => ?_) (fun c1 => by omega)
    rw [show e = w 1 by omega]
    exact g h hR
  | succ n ih =>
    intro e T h h2 h3 hD hR g
    have hw := hR.1.hw hw0
    have hv := vdt_r (e := e) hf h1
    have hle := hD.le
    have hp := hD.1
    have hp2 := hD.2.2.1
    have hp3 := hD.2.1
    have hR2 := hR.setv (a := (vdt w at_ e).2.1) (b := (vdt w at_ e).2.2)
    have e9 : ∀ a b, setv h a b 268 8 = b := fun a b => (hput_j (by decide)).trans hput_s
    have e8 := hR2.2.1 (vdt w at_ e).2.2.toNat (by omega)
    have hlt : T.1 (vdt w at_ e).2.2.toNat = -1 → T.2.2.2 ≤ 9999 := fun z => hD.lt hv z
    refine w_iload f268_63 rfl ?_
    refine w_aloadn f268_65 rfl (by omega) ?_
    refine w_getR f268_66 (by assumption) rfl (by omega) ?_
    refine w_iconst (v := 1) f268_69 (by decide) ?_
    refine w_iald f268_70 (by assumption) (by omega) (by (try simp only [hput, hcopy, Nat.reduceEqDiff, Nat.add_left_cancel_iff, Nat.add_right_cancel_iff, Nat.left_eq_add, Nat.add_eq_left, Nat.right_eq_add, Nat.add_eq_right, Nat.reduceAdd, Nat.add_zero, Nat.succ_ne_self, Nat.one_ne_zero, Nat.zero_ne_one, eq_self, and_self, and_true, true_and, and_false, false_and, if_true, if_false, reduceIte, Int.reduceToNat, Int.toNat_natCast, hw]); exact rfl) ?_
    refine w_ic_ge (t := 131) f268_71 (by decide) (fun c1 => by omega) (fun c1 => ?_)
    refine w_aloadn f268_74 rfl (by omega) ?_
    refine w_iloadn f268_75 rfl ?_
    refine w_iload f268_76 rfl ?_
    refine w_cV f268_78 (Or.inl rfl) rfl (by omega) (okd_of (by assumption)) rfl ⟨Nat.le_of_ble_eq_true rfl, rfl, Nat.le_of_ble_eq_true rfl⟩ (en175 _ _ _) (s175 hw hf h1) (pv175 _ _) ?_
    refine w_if_ne (t := 125) f268_81 (by decide) (fun c2 => ?_) (fun c2 => ?_)
    · refine w_iincn f268_125 rfl (by omega) (sto_5_4 rfl) ?_
      refine w_goto (t := 63) f268_128 (by decide) ?_
      first | (refine ih _ _ _ (by omega) (by omega) hD hR2 (fun h9 q9 => ?_); simp only [dpE, if_neg c2] at g; exact g h9 q9) | (refine ih _ _ _ (by omega) (by omega) hD hR2 (fun h9 q9 => ?_); simp only [dpE, if_pos c2] at g; unfold dpP at g; rw [if_neg (fun z => by rw [if_pos z] at c3; exact c3 rfl)] at g; exact g h9 q9) | (have hT : dpP T (vdt w at_ e).2.2 = (udI T.1 (vdt w at_ e).2.2.toNat 0, udI T.2.1 T.2.2.1.toNat (vdt w at_ e).2.2, T.2.2.1 + 1, T.2.2.2 + 1) := if_pos c4; refine ih _ (udI T.1 (vdt w at_ e).2.2.toNat 0, udI T.2.1 T.2.2.1.toNat (vdt w at_ e).2.2, T.2.2.1 + 1, T.2.2.2 + 1) _ (by omega) (by omega) (hT ▸ hD.go hv) (hT ▸ hR2.put hD hv c4) (fun h9 q9 => ?_); simp only [dpE, if_pos c2, hT] at g; exact g h9 q9)
    · refine w_aloadn f268_84 rfl (by omega) ?_
      refine w_getR f268_85 (by assumption) rfl (by omega) ?_
      refine w_aloadn f268_88 rfl (by omega) ?_
      refine w_getI f268_89 (by decide) (by assumption) (by exact e9 _ _) ?_
      refine w_bald f268_92 (by assumption) (by omega) (by exact e8) ?_
      refine w_if_eq (t := 99) f268_93 (by decide) (fun c3 => ?_) (fun c3 => ?_)
      · have c4 : T.1 (vdt w at_ e).2.2.toNat = -1 := Classical.byContradiction (fun z => by rw [if_neg z] at c3; exact absurd c3 (by decide))
        have hl9 := hlt c4
        refine w_aloadn f268_99 rfl (by omega) ?_
        refine w_getR f268_100 (by assumption) rfl (by omega) ?_
        refine w_aloadn f268_103 rfl (by omega) ?_
        refine w_getI f268_104 (by decide) (by assumption) (by exact e9 _ _) ?_
        refine w_iconst (v := 1) f268_107 (by decide) ?_
        refine w_bast f268_108 (by assumption) (by omega) (by decide) ?_
        refine w_aloadn f268_109 rfl (by omega) ?_
        refine w_getR f268_110 (by assumption) rfl (by omega) ?_
        refine w_iloadn f268_113 rfl ?_
        refine w_aloadn f268_114 rfl (by omega) ?_
        refine w_getI f268_115 (by decide) (by assumption) (by exact (hput_k (by decide)).trans (e9 _ _)) ?_
        refine w_iast f268_118 (by assumption) (by omega) ?_
        refine w_iincn f268_119 rfl (by omega) (sto_5_1 rfl) ?_
        refine w_iincn f268_122 rfl (by omega) (sto_5_2 rfl) ?_
        refine w_iincn f268_125 rfl (by omega) (sto_5_4 rfl) ?_
        refine w_goto (t := 63) f268_128 (by decide) ?_
        first | (refine ih _ _ _ (by omega) (by omega) hD hR2 (fun h9 q9 => ?_); simp only [dpE, if_neg c2] at g; exact g h9 q9) | (refine ih _ _ _ (by omega) (by omega) hD hR2 (fun h9 q9 => ?_); simp only [dpE, if_pos c2] at g; unfold dpP at g; rw [if_neg (fun z => by rw [if_pos z] at c3; exact c3 rfl)] at g; exact g h9 q9) | (have hT : dpP T (vdt w at_ e).2.2 = (udI T.1 (vdt w at_ e).2.2.toNat 0, udI T.2.1 T.2.2.1.toNat (vdt w at_ e).2.2, T.2.2.1 + 1, T.2.2.2 + 1) := if_pos c4; refine ih _ (udI T.1 (vdt w at_ e).2.2.toNat 0, udI T.2.1 T.2.2.1.toNat (vdt w at_ e).2.2, T.2.2.1 + 1, T.2.2.2 + 1) _ (by omega) (by omega) (hT ▸ hD.go hv) (hT ▸ hR2.put hD hv c4) (fun h9 q9 => ?_); simp only [dpE, if_pos c2, hT] at g; exact g h9 q9)
      · refine w_goto (t := 125) f268_96 (by decide) ?_
        refine w_iincn f268_125 rfl (by omega) (sto_5_4 rfl) ?_
        refine w_goto (t := 63) f268_128 (by decide) ?_
        first | (refine ih _ _ _ (by omega) (by omega) hD hR2 (fun h9 q9 => ?_); simp only [dpE, if_neg c2] at g; exact g h9 q9) | (refine ih _ _ _ (by omega) (by omega) hD hR2 (fun h9 q9 => ?_); simp only [dpE, if_pos c2] at g; unfold dpP at g; rw [if_neg (fun z => by rw [if_pos z] at c3; exact c3 rfl)] at g; exact g h9 q9) | (have hT : dpP T (vdt w at_ e).2.2 = (udI T.1 (vdt w at_ e).2.2.toNat 0, udI T.2.1 T.2.2.1.toNat (vdt w at_ e).2.2, T.2.2.1 + 1, T.2.2.2 + 1) := if_pos c4; refine ih _ (udI T.1 (vdt w at_ e).2.2.toNat 0, udI T.2.1 T.2.2.1.toNat (vdt w at_ e).2.2, T.2.2.1 + 1, T.2.2.2 + 1) _ (by omega) (by omega) (hT ▸ hD.go hv) (hT ▸ hR2.put hD hv c4) (fun h9 q9 => ?_); simp only [dpE, if_pos c2, hT] at g; exact g h9 q9)
theorem l268n {x y z v : Int} {Q : Out → Prop} (g : Rn (ev 268 46 [AR 268, AI x, AI y, AI z, AI v] [] σ) Q) : Rn (ev 268 131 [AR 268, AI x, AI y, AI z, AI v] [] σ) Q := by
  refine w_goto (t := 46) f268_131 (by decide) ?_
  exact g
theorem l268o {h0 : Nat → Nat → Int} (hw0 : h0 269 = w) (hE : 0 ≤ w 1 ∧ w 1 ≤ 8) (hf : WFt w) : ∀ (n : Nat) (p : Int) (T : DT) (h : Nat → Nat → Int) (v3 v4 : AV), cat1 v3 = true → cat1 v4 = true → p + n = 10001 → DI T p → DR h0 T h →
    Rn (ev 268 46 [AR 268, AI T.2.2.1, AI T.2.2.2, v3, v4] [] (KS r d, h, R)) (fun o => ∃ h1, Scr h0 h1 ∧ o = (.inl (AI (dpG w n T).2.2.2), (KS r d, h1, R))) := by
  intro n
  have k0 := @kd_268 r d
  have k1 := @kd_280 r d
  induction n with
  | zero =>
    intro p T h v3 v4 q3 q4 h1 hD hR
    have hle := hD.le
    have hp2 := hD.2.2.1
    refine w_iloadn f268_46 rfl ?_
    refine w_if_le (t := 134) f268_47 (by decide) (fun c1 => ?_) (fun c1 => by omega)
    refine w_iloadn f268_134 rfl ?_
    refine w_iret f268_135 rfl ?_
    exact ⟨h, hR.1, rfl⟩
  | succ n ih =>
    intro p T h v3 v4 q3 q4 h1 hD hR
    have hle := hD.le
    have hp := hD.1
    have hp2 := hD.2.2.1
    have hp3 := hD.2.1
    refine w_iloadn f268_46 rfl ?_
    refine w_if_le (t := 134) f268_47 (by decide) (fun c1 => ?_) (fun c1 => ?_)
    · refine w_iloadn f268_134 rfl ?_
      refine w_iret f268_135 rfl ?_
      exact ⟨h, hR.1, by simp only [dpG]; rw [if_neg (by omega)]⟩
    · have e3 := hR.2.2 (T.2.2.1 + -1).toNat (by omega)
      have h9 := hD.2.2.2.2 (T.2.2.1 + -1).toNat (by omega)
      have hD2 : DI (dpT T) (p + 1) := ⟨by omega, by show 0 ≤ T.2.2.1 + -1; omega, by show T.2.2.1 + -1 + (p + 1) = T.2.2.2; omega, hD.2.2.2.1, fun i hi => hD.2.2.2.2 i (by have hi : (i : Int) < T.2.2.1 + -1 := hi; omega)⟩
      have hR2 : DR h0 (dpT T) h := ⟨hR.1, hR.2.1, fun y hy => hR.2.2 y (by have hy : (y : Int) < T.2.2.1 + -1 := hy; omega)⟩
      refine w_iincn f268_50 rfl (by omega) (sto_5_1 rfl) ?_
      refine w_aloadn f268_53 rfl (by omega) ?_
      refine w_getR f268_54 (by assumption) rfl (by omega) ?_
      refine w_iloadn f268_57 rfl ?_
      refine w_iald f268_58 (by assumption) (by omega) (by exact e3) ?_
      refine w_istoren f268_59 (Nat.le_of_ble_eq_true rfl) (sto_5_3 rfl) ?_
      refine w_iconst (v := 0) f268_60 (by decide) ?_
      refine w_istore f268_61 (Nat.le_of_ble_eq_true rfl) (sto_5_4 rfl) ?_
      refine l268e hw0 hE.2 hf h9 (w 1).toNat 0 (dpT T) h (by omega) (by omega) hD2 hR2 (fun h4 q9 => ?_)
      refine l268n ?_
      have e9 : dpG w (n + 1) T = dpG w n (dpE w (T.2.1 (T.2.2.1 + -1).toNat) (w 1).toNat 0 (dpT T)) := by simp only [dpG]; rw [if_pos (by omega)]
      rw [e9]
      exact ih (p + 1) _ h4 _ _ rfl rfl (by omega) (hD2.ev hf h9 _ _) q9
def flZ (h : Nat → Nat → Int) (k : Int) : Nat → Nat → Int := fun x y => if x = 279 ∧ (y : Int) < k then 0 else h x y
theorem l268f {Q : Out → Prop} : ∀ (n : Nat) (k : Int), 0 ≤ k → k + n = 10000 → Rn (ev 268 22 [AR 268, AI 10000, AU, AU, AU] [] (KS r d, flZ h 10000, R)) Q → Rn (ev 268 2 [AR 268, AI k, AU, AU, AU] [] (KS r d, flZ h k, R)) Q := by
  intro n
  have k0 := @kd_268 r d
  have k2 := @kd_279 r d
  induction n with
  | zero =>
    intro k h1 h2 g
    rw [show k = 10000 by omega]
    refine w_iloadn f268_2 rfl ?_
    refine w_sipush (v := 10000) f268_3 (by decide) ?_
    refine w_ic_ge (t := 22) f268_6 (by decide) (fun c1 => ?_) (fun c1 => by omega)
    exact g
  | succ n ih =>
    intro k h1 h2 g
    have e : hput (flZ h k) 279 k.toNat 0 = flZ h (k + 1) := by
      refine funext fun x => funext fun y => ?_
      unfold hput flZ
      by_cases e1 : x = 279
      · subst e1
        by_cases e2 : (y : Int) < k
        · rw [if_neg (by omega), if_pos ⟨rfl, e2⟩, if_pos ⟨rfl, by omega⟩]
        · by_cases e3 : y = k.toNat
          · rw [if_pos ⟨rfl, e3⟩, if_pos ⟨rfl, by omega⟩]
          · rw [if_neg (by omega), if_neg (by omega), if_neg (by omega)]
      · rw [if_neg (by omega), if_neg (by omega), if_neg (by omega)]
    refine w_iloadn f268_2 rfl ?_
    refine w_sipush (v := 10000) f268_3 (by decide) ?_
    refine w_ic_ge (t := 22) f268_6 (by decide) (fun c1 => by omega) (fun c1 => ?_)
    refine w_aloadn f268_9 rfl (by omega) ?_
    refine w_getR f268_10 (by assumption) rfl (by omega) ?_
    refine w_iloadn f268_13 rfl ?_
    refine w_iconst (v := 0) f268_14 (by decide) ?_
    refine w_bast f268_15 (by assumption) (by omega) (by decide) ?_
    refine w_iincn f268_16 rfl (by omega) (sto_5_1 rfl) ?_
    refine w_goto (t := 2) f268_19 (by decide) ?_
    rw [e]
    exact ih _ (by omega) (by omega) g
theorem DI_0 : DI T0 0 := ⟨by decide, by decide, by decide, by show (0 : Int) = ((cnt (fun _ => -1) 10000 : Nat) : Int); rw [cnt_0]; rfl, fun i hi => absurd (show (i : Int) < 0 from hi) (by omega)⟩
theorem l268m (hw : h 269 = w) (hE : 0 ≤ w 1 ∧ w 1 ≤ 8) (hf : WFt w) (hc : WFc w) : Rn (ev 268 22 [AR 268, AI 10000, AU, AU, AU] [] (KS r d, flZ h 10000, R)) (fun o => ∃ h1, Scr h h1 ∧ o = (.inl (AI (dps w (hereW w))), (KS r d, h1, R))) := by
  have k0 := @kd_268 r d
  have k2 := @kd_279 r d
  have k3 := @kd_280 r d
  have h1 := hereW_r hc
  have hw1 : flZ h 10000 269 = w := by
    rw [← hw]
    exact funext fun y => if_neg (by omega)
  have hR0 : DR h T0 (flZ h 10000) := ⟨fun x y z => if_neg (by unfold scr at z; omega), fun y hy => (if_pos ⟨rfl, by omega⟩).trans (if_pos rfl).symm, fun y hy => absurd (show (y : Int) < 0 from hy) (by omega)⟩
  have hR1 := hR0.put DI_0 h1 rfl
  have e9 : hput (hput (flZ h 10000) 280 0 (hereW w)) 279 (hereW w).toNat 1 = hput (hput (flZ h 10000) 279 (hereW w).toNat 1) 280 0 (hereW w) := hput_c (Or.inl (by decide))
  refine w_iconst (v := 1) f268_22 (by decide) ?_
  refine w_istoren f268_23 (Nat.le_of_ble_eq_true rfl) (sto_5_1 rfl) ?_
  refine w_iconst (v := 1) f268_24 (by decide) ?_
  refine w_istoren f268_25 (Nat.le_of_ble_eq_true rfl) (sto_5_2 rfl) ?_
  refine w_aloadn f268_26 rfl (by omega) ?_
  refine w_getR f268_27 (by assumption) rfl (by omega) ?_
  refine w_iconst (v := 0) f268_30 (by decide) ?_
  refine w_aloadn f268_31 rfl (by omega) ?_
  refine w_cV f268_32 (Or.inl rfl) rfl (by omega) (okd_of (by assumption)) rfl ⟨Nat.le_of_ble_eq_true rfl, rfl, Nat.le_of_ble_eq_true rfl⟩ (en162 _) (s162 hw1 hc) (pv162 _ _) ?_
  refine w_iast f268_35 (by assumption) (by omega) ?_
  refine w_aloadn f268_36 rfl (by omega) ?_
  refine w_getR f268_37 (by assumption) rfl (by omega) ?_
  refine w_aloadn f268_40 rfl (by omega) ?_
  refine w_cV f268_41 (Or.inl rfl) rfl (by omega) (okd_of (by assumption)) rfl ⟨Nat.le_of_ble_eq_true rfl, rfl, Nat.le_of_ble_eq_true rfl⟩ (en162 _) (s162 (hput_w hw1 (by decide)) hc) (pv162 _ _) ?_
  refine w_iconst (v := 1) f268_44 (by decide) ?_
  refine w_bast f268_45 (by assumption) (by omega) (by decide) ?_
  rw [show (0 : Int).toNat = 0 from rfl, e9]
  exact l268o hw hE hf 10001 0 (dpP T0 (hereW w)) _ _ _ rfl rfl (by omega) (DI_0.go h1) hR1
theorem s268 (hw : h 269 = w) (hE : 0 ≤ w 1 ∧ w 1 ≤ 8) (hf : WFt w) (hc : WFc w) : Rn (ev 268 0 [AR 268, AU, AU, AU, AU] [] (KS r d, h, R)) (fun o => ∃ h1, Scr h h1 ∧ o = (.inl (AI (dps w (hereW w))), (KS r d, h1, R))) := by
  have e0 : h = flZ h 0 := by
    refine funext fun x => funext fun y => ?_
    unfold flZ
    rw [if_neg (by omega)]
  refine w_iconst (v := 0) f268_0 (by decide) ?_
  refine w_istoren f268_1 (Nat.le_of_ble_eq_true rfl) (sto_5_1 rfl) ?_
  rw [e0]
  refine l268f 10000 0 (by omega) (by omega) ?_
  rw [← e0]
  exact l268m hw hE hf hc
def smG (w : Nat → Int) (f : Int) : Nat → Int → Int → Int
  | 0, _, a => a
  | n + 1, k, a => smG w f n (k + 1) (wr (a + w (f + k).toNat))
theorem l254 {f m : Int} {nm : Nat} (hw : h 269 = w) (hm : m.toNat = nm) (hm0 : 0 ≤ m ∧ m ≤ 4) (hb : 0 ≤ f ∧ f + w nm ≤ 504 ∧ w nm ≤ 100 ∧ f ≤ 504) : ∀ (n : Nat) (k a : Int), 0 ≤ k → k + n = w nm → ev 254 5 [AR 268, AI f, AI m, AI a, AI k] [] (KS r d, h, R) = some (.inl (AI (smG w f n k a)), (KS r d, h, R)) := by
  intro n
  have k0 := @kd_268 r d
  have k1 := @kd_269 r d
  subst hm
  induction n with
  | zero =>
    intro k a h1 h2
    refine Rn.eq ?_
    refine w_iload f254_5 rfl ?_
    refine w_aloadn f254_7 rfl (by omega) ?_
    refine w_getR f254_8 (by assumption) rfl (by omega) ?_
    refine w_iloadn f254_11 rfl ?_
    refine w_iald f254_12 (by assumption) (by omega) (by (try simp only [hput, hcopy, Nat.reduceEqDiff, Nat.add_left_cancel_iff, Nat.add_right_cancel_iff, Nat.left_eq_add, Nat.add_eq_left, Nat.right_eq_add, Nat.add_eq_right, Nat.reduceAdd, Nat.add_zero, Nat.succ_ne_self, Nat.one_ne_zero, Nat.zero_ne_one, eq_self, and_self, and_true, true_and, and_false, false_and, if_true, if_false, reduceIte, Int.reduceToNat, Int.toNat_natCast, hw]); exact rfl) ?_
    refine w_ic_ge (t := 34) f254_13 (by decide) (fun c1 => ?_) (fun c1 => by omega)
    refine w_iloadn f254_34 rfl ?_
    refine w_iret f254_35 rfl ?_
    exact rfl
  | succ n ih =>
    intro k a h1 h2
    refine Rn.eq ?_
    refine w_iload f254_5 rfl ?_
    refine w_aloadn f254_7 rfl (by omega) ?_
    refine w_getR f254_8 (by assumption) rfl (by omega) ?_
    refine w_iloadn f254_11 rfl ?_
    refine w_iald f254_12 (by assumption) (by omega) (by (try simp only [hput, hcopy, Nat.reduceEqDiff, Nat.add_left_cancel_iff, Nat.add_right_cancel_iff, Nat.left_eq_add, Nat.add_eq_left, Nat.right_eq_add, Nat.add_eq_right, Nat.reduceAdd, Nat.add_zero, Nat.succ_ne_self, Nat.one_ne_zero, Nat.zero_ne_one, eq_self, and_self, and_true, true_and, and_false, false_and, if_true, if_false, reduceIte, Int.reduceToNat, Int.toNat_natCast, hw]); exact rfl) ?_
    refine w_ic_ge (t := 34) f254_13 (by decide) (fun c1 => by omega) (fun c1 => ?_)
    refine w_iloadn f254_16 rfl ?_
    refine w_aloadn f254_17 rfl (by omega) ?_
    refine w_getR f254_18 (by assumption) rfl (by omega) ?_
    refine w_iloadn f254_21 rfl ?_
    refine w_iload f254_22 rfl ?_
    refine w_iaddn f254_24 (by omega) ?_
    refine w_iald f254_25 (by assumption) (by omega) (by (try simp only [hput, hcopy, Nat.reduceEqDiff, Nat.add_left_cancel_iff, Nat.add_right_cancel_iff, Nat.left_eq_add, Nat.add_eq_left, Nat.right_eq_add, Nat.add_eq_right, Nat.reduceAdd, Nat.add_zero, Nat.succ_ne_self, Nat.one_ne_zero, Nat.zero_ne_one, eq_self, and_self, and_true, true_and, and_false, false_and, if_true, if_false, reduceIte, Int.reduceToNat, Int.toNat_natCast, hw]); exact rfl) ?_
    refine w_iadd f254_26 ?_
    refine w_istoren f254_27 (Nat.le_of_ble_eq_true rfl) (sto_5_3 rfl) ?_
    refine w_iincn f254_28 rfl (by omega) (sto_5_4 rfl) ?_
    refine w_goto (t := 5) f254_31 (by decide) ?_
    exact Rn.to (ih _ _ (by omega) (by omega)) rfl
theorem s254 {f m : Int} {nm : Nat} (hw : h 269 = w) (hm : m.toNat = nm) (hm0 : 0 ≤ m ∧ m ≤ 4) (hb : 0 ≤ f ∧ f + w nm ≤ 504 ∧ w nm ≤ 100 ∧ f ≤ 504) (h0 : 0 ≤ w nm) : ev 254 0 [AR 268, AI f, AI m, AU, AU] [] (KS r d, h, R) = some (.inl (AI (smG w f (w nm).toNat 0 0)), (KS r d, h, R)) := by
  refine Rn.eq ?_
  refine w_iconst (v := 0) f254_0 (by decide) ?_
  refine w_istoren f254_1 (Nat.le_of_ble_eq_true rfl) (sto_5_3 rfl) ?_
  refine w_iconst (v := 0) f254_2 (by decide) ?_
  refine w_istore f254_3 (Nat.le_of_ble_eq_true rfl) (sto_5_4 rfl) ?_
  exact Rn.to (l254 hw hm hm0 hb (w nm).toNat 0 0 (by omega) (by omega)) rfl
def isC (w : Nat → Int) : Prop := fb w (hereW w) = -1 ∧ smG w 69 (w 3).toNat 0 0 = w 12 ∧ smG w 59 (w 0).toNat 0 0 = wr (w 12 + 1) ∧ wr (wr (wr (wr (0 + w 13) + w 14) + w 15) + w 16) = w 17 ∧ (bfs w (hereW w)).2.2 = dps w (hereW w)
theorem s269 (hw : h 269 = w) (hE : 0 ≤ w 1 ∧ w 1 ≤ 8) (hf : WFt w) (hc : WFc w) (h0 : 0 ≤ w 0 ∧ w 0 ≤ 10) : Rn (ev 269 0 [AR 268, AU, AU] [] (KS r d, h, R)) (QR r d R h 0 (AI (b2i (isC w)))) := by
  have k0 := @kd_268 r d
  have k1 := @kd_269 r d
  have h1 := hereW_r hc
  have hf1 := hf.1
  have hw2 : ∀ S a b, bH (hput h 268 6 0) S a b 269 = w := fun S a b => bH_w (by repeat (first | exact hw | refine setv_w ?_ (by decide) | refine hput_w ?_ (by decide))) (by decide)
  refine w_aloadn f269_0 rfl (by omega) ?_
  refine w_iconst (v := 0) f269_1 (by decide) ?_
  refine w_putI f269_2 (by assumption) ?_
  refine w_aloadn f269_5 rfl (by omega) ?_
  refine w_aloadn f269_6 rfl (by omega) ?_
  refine w_cV f269_7 (Or.inl rfl) rfl (by omega) (okd_of (by assumption)) rfl ⟨Nat.le_of_ble_eq_true rfl, rfl, Nat.le_of_ble_eq_true rfl⟩ (en162 _) (s162 (w := w) (by first | exact hw2 _ _ _ | exact (by repeat (first | exact hw | refine setv_w ?_ (by decide) | refine hput_w ?_ (by decide)))) hc) (pv162 _ _) ?_
  refine w_cV f269_10 (Or.inl rfl) rfl (by omega) (okd_of (by assumption)) rfl ⟨Nat.le_of_ble_eq_true rfl, rfl, Nat.le_of_ble_eq_true rfl⟩ (en171 _ _) (s171 (w := w) (by repeat (first | exact hw | refine setv_w ?_ (by decide) | refine hput_w ?_ (by decide))) h1.1 hf.2.1) (pv171 _ _) ?_
  refine w_iconst (v := -1) f269_13 (by decide) ?_
  refine w_ic_ne (t := 53) f269_14 (by decide) (fun c1 => ?_) (fun c1 => ?_)
  · refine w_iconst (v := 0) f269_53 (by decide) ?_
    refine w_zret f269_54 rfl (by decide) ?_
    first | exact ⟨_, Scr.rf, ob_f (fun z => by unfold isC at z; omega)⟩ | exact ⟨_, bH_S, ob_f (fun z => by unfold isC at z; omega)⟩ | exact ⟨_, bH_S.tr q2, ob_f (fun z => by unfold isC at z; omega)⟩ | exact ⟨_, bH_S.tr q2, ob_t ⟨by omega, by omega, by omega, by omega, by omega⟩⟩
  · refine w_aloadn f269_17 rfl (by omega) ?_
    refine w_bipush (v := 69) f269_18 (by decide) ?_
    refine w_iconst (v := 3) f269_20 (by decide) ?_
    refine w_cV f269_21 (Or.inl rfl) rfl (by omega) (okd_of (by assumption)) rfl ⟨Nat.le_of_ble_eq_true rfl, rfl, Nat.le_of_ble_eq_true rfl⟩ (en254 _ _ _) (s254 (w := w) (nm := 3) (by repeat (first | exact hw | refine setv_w ?_ (by decide) | refine hput_w ?_ (by decide))) rfl (by decide) (by omega) (by omega)) (pv254 _ _) ?_
    refine w_aloadn f269_24 rfl (by omega) ?_
    refine w_getR f269_25 (by assumption) rfl (by omega) ?_
    refine w_bipush (v := 12) f269_28 (by decide) ?_
    refine w_iald f269_30 (by assumption) (by omega) (by (try simp only [hput, hcopy, Nat.reduceEqDiff, Nat.add_left_cancel_iff, Nat.add_right_cancel_iff, Nat.left_eq_add, Nat.add_eq_left, Nat.right_eq_add, Nat.add_eq_right, Nat.reduceAdd, Nat.add_zero, Nat.succ_ne_self, Nat.one_ne_zero, Nat.zero_ne_one, eq_self, and_self, and_true, true_and, and_false, false_and, if_true, if_false, reduceIte, Int.reduceToNat, Int.toNat_natCast, hw, hw2]); exact rfl) ?_
    refine w_ic_ne (t := 53) f269_31 (by decide) (fun c2 => ?_) (fun c2 => ?_)
    · refine w_iconst (v := 0) f269_53 (by decide) ?_
      refine w_zret f269_54 rfl (by decide) ?_
      first | exact ⟨_, Scr.rf, ob_f (fun z => by unfold isC at z; omega)⟩ | exact ⟨_, bH_S, ob_f (fun z => by unfold isC at z; omega)⟩ | exact ⟨_, bH_S.tr q2, ob_f (fun z => by unfold isC at z; omega)⟩ | exact ⟨_, bH_S.tr q2, ob_t ⟨by omega, by omega, by omega, by omega, by omega⟩⟩
    · refine w_aloadn f269_34 rfl (by omega) ?_
      refine w_bipush (v := 59) f269_35 (by decide) ?_
      refine w_iconst (v := 0) f269_37 (by decide) ?_
      refine w_cV f269_38 (Or.inl rfl) rfl (by omega) (okd_of (by assumption)) rfl ⟨Nat.le_of_ble_eq_true rfl, rfl, Nat.le_of_ble_eq_true rfl⟩ (en254 _ _ _) (s254 (w := w) (nm := 0) (by repeat (first | exact hw | refine setv_w ?_ (by decide) | refine hput_w ?_ (by decide))) rfl (by decide) (by omega) (by omega)) (pv254 _ _) ?_
      refine w_aloadn f269_41 rfl (by omega) ?_
      refine w_getR f269_42 (by assumption) rfl (by omega) ?_
      refine w_bipush (v := 12) f269_45 (by decide) ?_
      refine w_iald f269_47 (by assumption) (by omega) (by (try simp only [hput, hcopy, Nat.reduceEqDiff, Nat.add_left_cancel_iff, Nat.add_right_cancel_iff, Nat.left_eq_add, Nat.add_eq_left, Nat.right_eq_add, Nat.add_eq_right, Nat.reduceAdd, Nat.add_zero, Nat.succ_ne_self, Nat.one_ne_zero, Nat.zero_ne_one, eq_self, and_self, and_true, true_and, and_false, false_and, if_true, if_false, reduceIte, Int.reduceToNat, Int.toNat_natCast, hw, hw2]); exact rfl) ?_
      refine w_iconst (v := 1) f269_48 (by decide) ?_
      refine w_iadd f269_49 ?_
      refine w_ic_eq (t := 55) f269_50 (by decide) (fun c3 => ?_) (fun c3 => ?_)
      · refine w_iconst (v := 0) f269_55 (by decide) ?_
        refine w_istoren f269_56 (Nat.le_of_ble_eq_true rfl) (sto_3_1 rfl) ?_
        refine w_iconst (v := 1) f269_57 (by decide) ?_
        refine w_istoren f269_58 (Nat.le_of_ble_eq_true rfl) (sto_3_2 rfl) ?_
        refine w_iloadn f269_59 rfl ?_
        refine w_iconst (v := 4) f269_60 (by decide) ?_
        refine w_ic_gt (t := 82) f269_61 (by decide) (fun e9 => absurd e9 (by decide)) (fun _ => ?_)
        refine w_iloadn f269_64 rfl ?_
        refine w_aloadn f269_65 rfl (by omega) ?_
        refine w_getR f269_66 (by assumption) rfl (by omega) ?_
        refine w_bipush (v := 12) f269_69 (by decide) ?_
        refine w_iloadn f269_71 rfl ?_
        refine w_iaddc (v := 13) f269_72 (by decide) ?_
        refine w_iald f269_73 (by assumption) (by omega) (by (try simp only [hput, hcopy, Nat.reduceEqDiff, Nat.add_left_cancel_iff, Nat.add_right_cancel_iff, Nat.left_eq_add, Nat.add_eq_left, Nat.right_eq_add, Nat.add_eq_right, Nat.reduceAdd, Nat.add_zero, Nat.succ_ne_self, Nat.one_ne_zero, Nat.zero_ne_one, eq_self, and_self, and_true, true_and, and_false, false_and, if_true, if_false, reduceIte, Int.reduceToNat, Int.toNat_natCast, hw, hw2]); exact rfl) ?_
        refine w_iadd f269_74 ?_
        refine w_istoren f269_75 (Nat.le_of_ble_eq_true rfl) (sto_3_1 rfl) ?_
        refine w_iincc (v := 2) f269_76 rfl (by decide) (sto_3_2 rfl) ?_
        refine w_goto (t := 59) f269_79 (by decide) ?_
        refine w_iloadn f269_59 rfl ?_
        refine w_iconst (v := 4) f269_60 (by decide) ?_
        refine w_ic_gt (t := 82) f269_61 (by decide) (fun e9 => absurd e9 (by decide)) (fun _ => ?_)
        refine w_iloadn f269_64 rfl ?_
        refine w_aloadn f269_65 rfl (by omega) ?_
        refine w_getR f269_66 (by assumption) rfl (by omega) ?_
        refine w_bipush (v := 12) f269_69 (by decide) ?_
        refine w_iloadn f269_71 rfl ?_
        refine w_iaddc (v := 14) f269_72 (by decide) ?_
        refine w_iald f269_73 (by assumption) (by omega) (by (try simp only [hput, hcopy, Nat.reduceEqDiff, Nat.add_left_cancel_iff, Nat.add_right_cancel_iff, Nat.left_eq_add, Nat.add_eq_left, Nat.right_eq_add, Nat.add_eq_right, Nat.reduceAdd, Nat.add_zero, Nat.succ_ne_self, Nat.one_ne_zero, Nat.zero_ne_one, eq_self, and_self, and_true, true_and, and_false, false_and, if_true, if_false, reduceIte, Int.reduceToNat, Int.toNat_natCast, hw, hw2]); exact rfl) ?_
        refine w_iadd f269_74 ?_
        refine w_istoren f269_75 (Nat.le_of_ble_eq_true rfl) (sto_3_1 rfl) ?_
        refine w_iincc (v := 3) f269_76 rfl (by decide) (sto_3_2 rfl) ?_
        refine w_goto (t := 59) f269_79 (by decide) ?_
        refine w_iloadn f269_59 rfl ?_
        refine w_iconst (v := 4) f269_60 (by decide) ?_
        refine w_ic_gt (t := 82) f269_61 (by decide) (fun e9 => absurd e9 (by decide)) (fun _ => ?_)
        refine w_iloadn f269_64 rfl ?_
        refine w_aloadn f269_65 rfl (by omega) ?_
        refine w_getR f269_66 (by assumption) rfl (by omega) ?_
        refine w_bipush (v := 12) f269_69 (by decide) ?_
        refine w_iloadn f269_71 rfl ?_
        refine w_iaddc (v := 15) f269_72 (by decide) ?_
        refine w_iald f269_73 (by assumption) (by omega) (by (try simp only [hput, hcopy, Nat.reduceEqDiff, Nat.add_left_cancel_iff, Nat.add_right_cancel_iff, Nat.left_eq_add, Nat.add_eq_left, Nat.right_eq_add, Nat.add_eq_right, Nat.reduceAdd, Nat.add_zero, Nat.succ_ne_self, Nat.one_ne_zero, Nat.zero_ne_one, eq_self, and_self, and_true, true_and, and_false, false_and, if_true, if_false, reduceIte, Int.reduceToNat, Int.toNat_natCast, hw, hw2]); exact rfl) ?_
        refine w_iadd f269_74 ?_
        refine w_istoren f269_75 (Nat.le_of_ble_eq_true rfl) (sto_3_1 rfl) ?_
        refine w_iincc (v := 4) f269_76 rfl (by decide) (sto_3_2 rfl) ?_
        refine w_goto (t := 59) f269_79 (by decide) ?_
        refine w_iloadn f269_59 rfl ?_
        refine w_iconst (v := 4) f269_60 (by decide) ?_
        refine w_ic_gt (t := 82) f269_61 (by decide) (fun e9 => absurd e9 (by decide)) (fun _ => ?_)
        refine w_iloadn f269_64 rfl ?_
        refine w_aloadn f269_65 rfl (by omega) ?_
        refine w_getR f269_66 (by assumption) rfl (by omega) ?_
        refine w_bipush (v := 12) f269_69 (by decide) ?_
        refine w_iloadn f269_71 rfl ?_
        refine w_iaddc (v := 16) f269_72 (by decide) ?_
        refine w_iald f269_73 (by assumption) (by omega) (by (try simp only [hput, hcopy, Nat.reduceEqDiff, Nat.add_left_cancel_iff, Nat.add_right_cancel_iff, Nat.left_eq_add, Nat.add_eq_left, Nat.right_eq_add, Nat.add_eq_right, Nat.reduceAdd, Nat.add_zero, Nat.succ_ne_self, Nat.one_ne_zero, Nat.zero_ne_one, eq_self, and_self, and_true, true_and, and_false, false_and, if_true, if_false, reduceIte, Int.reduceToNat, Int.toNat_natCast, hw, hw2]); exact rfl) ?_
        refine w_iadd f269_74 ?_
        refine w_istoren f269_75 (Nat.le_of_ble_eq_true rfl) (sto_3_1 rfl) ?_
        refine w_iincc (v := 5) f269_76 rfl (by decide) (sto_3_2 rfl) ?_
        refine w_goto (t := 59) f269_79 (by decide) ?_
        refine w_iloadn f269_59 rfl ?_
        refine w_iconst (v := 4) f269_60 (by decide) ?_
        refine w_ic_gt (t := 82) f269_61 (by decide) (fun _ => ?_) (fun e9 => absurd e9 (by decide))
        refine w_aloadn f269_82 rfl (by omega) ?_
        refine w_aloadn f269_83 rfl (by omega) ?_
        refine w_cV f269_84 (Or.inl rfl) rfl (by omega) (okd_of (by assumption)) rfl ⟨Nat.le_of_ble_eq_true rfl, rfl, Nat.le_of_ble_eq_true rfl⟩ (en162 _) (s162 (w := w) (by first | exact hw2 _ _ _ | exact (by repeat (first | exact hw | refine setv_w ?_ (by decide) | refine hput_w ?_ (by decide)))) hc) (pv162 _ _) ?_
        refine w_qV f269_87 (Or.inl rfl) rfl (by omega) (okd_of (by assumption)) rfl ⟨Nat.le_of_ble_eq_true rfl, rfl, Nat.le_of_ble_eq_true rfl⟩ (en178 _ _) (s178 (w := w) (by repeat (first | exact hw | refine setv_w ?_ (by decide) | refine hput_w ?_ (by decide))) hE hf h1) (fun o9 ho9 => ?_)
        obtain ⟨a1, b1, rfl⟩ := ho9
        refine w_bok (pv178 _ _) ?_
        refine w_iloadn f269_90 rfl ?_
        refine w_aloadn f269_91 rfl (by omega) ?_
        refine w_getR f269_92 (by assumption) rfl (by omega) ?_
        refine w_bipush (v := 17) f269_95 (by decide) ?_
        refine w_iald f269_97 (by assumption) (by omega) (by (try simp only [hput, hcopy, Nat.reduceEqDiff, Nat.add_left_cancel_iff, Nat.add_right_cancel_iff, Nat.left_eq_add, Nat.add_eq_left, Nat.right_eq_add, Nat.add_eq_right, Nat.reduceAdd, Nat.add_zero, Nat.succ_ne_self, Nat.one_ne_zero, Nat.zero_ne_one, eq_self, and_self, and_true, true_and, and_false, false_and, if_true, if_false, reduceIte, Int.reduceToNat, Int.toNat_natCast, hw, hw2]); exact rfl) ?_
        refine w_ic_ne (t := 116) f269_98 (by decide) (fun c9 => ?_) (fun c9 => ?_)
        · refine w_iconst (v := 0) f269_116 (by decide) ?_
          refine w_zret f269_117 rfl (by decide) ?_
          first | exact ⟨_, Scr.rf, ob_f (fun z => by unfold isC at z; omega)⟩ | exact ⟨_, bH_S, ob_f (fun z => by unfold isC at z; omega)⟩ | exact ⟨_, bH_S.tr q2, ob_f (fun z => by unfold isC at z; omega)⟩ | exact ⟨_, bH_S.tr q2, ob_t ⟨by omega, by omega, by omega, by omega, by omega⟩⟩
        · refine w_aloadn f269_101 rfl (by omega) ?_
          refine w_getI f269_102 (by decide) (by assumption) (by exact bH_n) ?_
          refine w_aloadn f269_105 rfl (by omega) ?_
          refine w_qV f269_106 (Or.inl rfl) rfl (by omega) (okd_of (by assumption)) rfl ⟨Nat.le_of_ble_eq_true rfl, rfl, Nat.le_of_ble_eq_true rfl⟩ (en268 _) (s268 (hw2 _ _ _) hE hf hc) (fun o9 ho9 => ?_)
          obtain ⟨h2, q2, rfl⟩ := ho9
          refine w_bok (pv268 _ _) ?_
          refine w_ic_ne (t := 116) f269_109 (by decide) (fun c10 => ?_) (fun c10 => ?_)
          · refine w_iconst (v := 0) f269_116 (by decide) ?_
            refine w_zret f269_117 rfl (by decide) ?_
            first | exact ⟨_, Scr.rf, ob_f (fun z => by unfold isC at z; omega)⟩ | exact ⟨_, bH_S, ob_f (fun z => by unfold isC at z; omega)⟩ | exact ⟨_, bH_S.tr q2, ob_f (fun z => by unfold isC at z; omega)⟩ | exact ⟨_, bH_S.tr q2, ob_t ⟨by omega, by omega, by omega, by omega, by omega⟩⟩
          · refine w_iconst (v := 1) f269_112 (by decide) ?_
            refine w_goto (t := 117) f269_113 (by decide) ?_
            refine w_zret f269_117 rfl (by decide) ?_
            first | exact ⟨_, Scr.rf, ob_f (fun z => by unfold isC at z; omega)⟩ | exact ⟨_, bH_S, ob_f (fun z => by unfold isC at z; omega)⟩ | exact ⟨_, bH_S.tr q2, ob_f (fun z => by unfold isC at z; omega)⟩ | exact ⟨_, bH_S.tr q2, ob_t ⟨by omega, by omega, by omega, by omega, by omega⟩⟩
      · refine w_iconst (v := 0) f269_53 (by decide) ?_
        refine w_zret f269_54 rfl (by decide) ?_
        first | exact ⟨_, Scr.rf, ob_f (fun z => by unfold isC at z; omega)⟩ | exact ⟨_, bH_S, ob_f (fun z => by unfold isC at z; omega)⟩ | exact ⟨_, bH_S.tr q2, ob_f (fun z => by unfold isC at z; omega)⟩ | exact ⟨_, bH_S.tr q2, ob_t ⟨by omega, by omega, by omega, by omega, by omega⟩⟩
end A

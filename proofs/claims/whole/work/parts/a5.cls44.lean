/-! the class loads a machine -/
section A
variable {K : List AKd} {h : Nat → Nat → Int} {R : R4} {σ : Sg} {r d : Nat} {w u : Nat → Int} {b : Nat → Int} {n N M : Int}
theorem tr_5 (g : ∀ y : Nat, y < 504 → u y = w y) {t j : Int} (ht : t < 24) (hj : j < 9) : tr u t j = tr w t j := g _ (by omega)
theorem iv_5 (g : ∀ y : Nat, y < 504 → u y = w y) {t j : Int} (ht : t < 12) (hj : j < 4) : iv u t j = iv w t j := g _ (by omega)
theorem gdB_5 (g : ∀ y : Nat, y < 504 → u y = w y) {t c : Int} (ht : t < 24) : gdB u t c = gdB w t c := by
  unfold gdB
  rw [tr_5 g ht (by decide), tr_5 g ht (by decide), tr_5 g ht (by decide)]
theorem chG_5 (g : ∀ y : Nat, y < 504 → u y = w y) {c e : Int} : ∀ (m : Nat) (k x : Int), k + m ≤ 24 → chG u c e m k x = chG w c e m k x
  | 0, _, _, _ => rfl
  | m + 1, k, x, h => by
    simp only [chG]
    rw [tr_5 g (by omega) (by decide), tr_5 g (by omega) (by decide), gdB_5 g (by omega), chG_5 g m (k + 1) _ (by omega), chG_5 g m (k + 1) _ (by omega)]
theorem fbG_5 (g : ∀ y : Nat, y < 504 → u y = w y) {c : Int} : ∀ (m : Nat) (k : Int), k + m ≤ 12 → fbG u c m k = fbG w c m k
  | 0, _, _ => rfl
  | m + 1, k, h => by
    simp only [fbG]
    unfold brk
    rw [iv_5 g (by omega) (by decide), iv_5 g (by omega) (by decide), iv_5 g (by omega) (by decide), iv_5 g (by omega) (by decide), fbG_5 g m (k + 1) (by omega)]
theorem vdt_5 (hW : WFm w) (g : ∀ y : Nat, y < 504 → u y = w y) {c e : Int} : vdt u c e = vdt w c e := by
  obtain ⟨v0, v1, v2, v3, v4⟩ := hW.1
  have ec : ch u c e = ch w c e := by
    unfold ch
    rw [g 3 (by decide), chG_5 g _ _ _ (by omega)]
  have ef : ∀ x, fb u x = fb w x := fun x => by
    unfold fb
    rw [g 4 (by decide), fbG_5 g _ _ (by omega)]
  have ev' : ∀ x, vdF u x = vdF w x := fun x => by
    unfold vdF
    rw [ef]
  have hr := ch_r (w := w) (c := c) (e := e) v3.1
  have ht : (ch w c e).2 < 24 := by omega
  have et : ∀ j, j < 9 → tr u (ch w c e).2 j = tr w (ch w c e).2 j := fun j hj => tr_5 g ht hj
  have ea : ∀ x, actV u (ch w c e).2 x = actV w (ch w c e).2 x := fun x => by
    unfold actV
    rw [et 7 (by decide), et 8 (by decide)]
  have en : nx0 u c (ch w c e).2 = nx0 w c (ch w c e).2 := by
    unfold nx0
    rw [et 2 (by decide)]
  unfold vdt
  rw [ec, et 6 (by decide), en, ea, ev', ev']
theorem bfC_5 (hW : WFm w) (g : ∀ y : Nat, y < 504 → u y = w y) {c : Int} : bfC u c = bfC w c := by
  have e1 : u 1 = w 1 := g 1 (by decide)
  have a1 : ∀ c e X, exC1 u c e X = exC1 w c e X := fun c e X => by
    unfold exC1
    rw [vdt_5 hW g]
  have a2 : ∀ (m : Nat) (c e : Int) (X : XC), exCG u c m e X = exCG w c m e X := by
    intro m
    induction m with
    | zero => intros; rfl
    | succ m ih =>
      intro c e X
      show exCG u c m (e + 1) (exC1 u c e X) = exCG w c m (e + 1) (exC1 w c e X)
      rw [a1, ih]
  have a3 : ∀ (m : Nat) (c e : Int), anyA u c m e = anyA w c m e := by
    intro m
    induction m with
    | zero => intros; rfl
    | succ m ih =>
      intro c e
      simp only [anyA]
      rw [vdt_5 hW g, ih]
  have a4 : ∀ (m : Nat) (k : Int) (X : XC) (D E : Int), srC u m k X D E = srC w m k X D E := by
    intro m
    induction m with
    | zero => intros; rfl
    | succ m ih =>
      intro k X D E
      simp only [srC]
      rw [e1, a2, a3, ih]
  unfold bfC
  rw [a4]
theorem SRs.a5 (q : SRs h w) (hW : WFm w) (g : ∀ y : Nat, y < 504 → u y = w y) : SRs h u := by
  unfold SRs at q ⊢
  rw [hW_ag (g 5 (by decide)) (g 6 (by decide)) (g 7 (by decide)) (g 8 (by decide)), ← bfC_1 (w := u), bfC_5 hW g, bfC_1]
  exact q
theorem RelM.a5 (q : RelM r d N h w) (g : ∀ y : Nat, y < 504 → u y = w y) : RelM r d N h u := by
  obtain ⟨m1, ⟨hd, hx, -⟩, hn, m4, m5, m6⟩ := q
  exact ⟨m1, ⟨hd.a5 g, EX.a5 hd hx g, trivial⟩, by rw [g 0 (by decide), g 1 (by decide), g 2 (by decide)]; exact hn, m4.ag hd.1 (fun y hy => g y (by omega)), m5.a5 hd g, fun z => (m6 z).a5 hd.1 g⟩
theorem RelH.a5 {f : Nat → Int} {c : Int} (q : RelH N h w f c) (g : ∀ y : Nat, y < 504 → u y = w y) : RelH N h u f c := by
  obtain ⟨a1, a2, a3, a4⟩ := q
  exact ⟨a1, a2, a3, fun i hi => ⟨(a4 i hi).1, (a4 i hi).2.to (fun y hy => g y (by omega)) (Int.le_refl _)⟩⟩
theorem RelS.a5 {f : Nat → Int} {c : Int} (q : RelS N h w f c) (g : ∀ y : Nat, y < 504 → u y = w y) : RelS N h u f c :=
  ⟨q.1, fun z => ⟨(q.2 z).1, (q.2 z).2.to (fun y hy => g y (by omega)) (Int.le_refl _)⟩⟩
theorem mTxt_z (h7 : n ≤ 700) {nn : Nat → Int} {s : PS} (hm : mTxt b n w nn = .inr s) : WFm s.1 ∧ ∀ y, 12 ≤ y → y ≤ 92 → s.1 y = 0 := by
  unfold mTxt at hm
  obtain ⟨s2, m2, hm⟩ := pb_inr hm
  have hq := mTxG_ok h7 701 (zr w 0 504, tok b n 0, nn) s2 (tok_r h7 (by decide)) WFm_0 m2
  unfold mEnd at hm
  split at hm
  · cases hm
  · split at hm
    · injection hm with hm
      subst hm
      exact ⟨hq.1, fun y y1 y2 => (hq.2 y (by omega)).trans (if_pos ⟨by omega, by omega⟩)⟩
    · cases hm
/-- the machine begins with the rules r: u -/
def LdF (h h1 : Nat → Nat → Int) : Prop := ∀ x y, (x < 8 ∨ 21 ≤ x) → ¬ (x = 34 ∧ y = 2) → ¬ (x = 1 ∧ y = 13) → ¬ (x = 143 ∧ y = 0) → h1 x y = h x y
theorem l75b {x : Nat} (hr : RD2 r) (hW : WFm u) (hz : ∀ y, 12 ≤ y → y ≤ 92 → u y = 0) (hR : RRl h r u) : Rn (ev 75 42 [AR 1, AR x] [] (KS r d, h, R)) (fun o => ∃ h1, (LdF h h1 ∧ RSt h1 8 (ldM u) ∧ h1 34 2 = 0 ∧ h1 1 13 = 0 ∧ h1 143 0 = 0) ∧ o = (.inl (AI (u 0)), (KS r d, h1, R))) := by
  have r0 : 156 ≤ r := by unfold RD2 at hr; omega
  have hl := shRl (r := r) (d := d) hr
  obtain ⟨l1, n1, -⟩ := id hl
  have n11 := n1.1
  have k1 := @kd_1 r d
  have k8 := @kd_8 r d
  have k34 := @kd_34 r d
  have k143 := @kd_143 r d
  have wi := hW.2.1
  obtain ⟨y9, -, -, -, y8⟩ := stW_v (wi 0 (by decide) (by decide)) (wi 1 (by decide) (by decide)) (wi 2 (by decide) (by decide))
  have e0 : h (r + 1) 2 = u 0 := hR.1.1.1.1
  have eo : ∀ y : Nat, ¬ (5 ≤ y ∧ y ≤ 8) → y ≠ 18 → y ≠ 59 → ldM u y = u y := fun y y1 y2 y3 => (if_neg y3).trans (g2sW_o ⟨y1, y2⟩)
  have fin : ∀ h1, Ot 8 13 h h1 → RCf h1 9 (startW u) → RIv h1 11 u → BCv h1 16 (startW u / 1000) → RSt h1 8 (ldM u) := fun h1 o c1 c2 c3 => by
    rw [y9] at c3
    refine ⟨?_, c2.ag hW.1.2.2.2.2 (eo 4 (by omega) (by omega) (by omega)) (fun y y1 y2 => eo y (by omega) (by omega) (by omega)), c3.to ?_ ?_ rfl (fun t ht => ?_) (fun t ht => ?_) (fun t t1 t2 => ?_)⟩
    · have e : hereW (ldM u) = hereW (g2sW u) := hW_ag rfl rfl rfl rfl
      rw [e, hW_g2 hW]
      exact c1
    · exact (eo 12 (by omega) (by omega) (by omega)).trans (hz 12 (by omega) (by omega))
    · exact (eo 17 (by omega) (by omega) (by omega)).trans (hz 17 (by omega) (by omega))
    · exact (eo _ (by omega) (by omega) (by omega)).trans (hz _ (by omega) (by omega))
    · by_cases z : (t : Int) = 0
      · rw [if_pos z, show 59 + t = 59 by omega]
        rfl
      · rw [if_neg z]
        exact (eo _ (by omega) (by omega) (by omega)).trans (hz _ (by omega) (by omega))
    · exact (eo _ (by omega) (by omega) (by omega)).trans (hz _ (by omega) (by omega))
  refine w_aloadn f75_42 rfl (by omega) ?_
  refine w_getR f75_43 (by assumption) rfl (by omega) ?_
  refine w_aloadn f75_46 rfl (by omega) ?_
  refine w_getR f75_47 (by assumption) rfl (by omega) ?_
  refine w_qV f75_50 (Or.inl rfl) rfl (by omega) (okd_of (by assumption)) rfl ⟨Nat.le_of_ble_eq_true rfl, rfl, Nat.le_of_ble_eq_true rfl⟩ (en66 _ _) (s66 (w := u) sh8 hl (by decide) (by omega) (by omega) hW.1.2.2.2.2 y8 hR.1.2.1 hR.1.2.2) (fun o9 ho9 => ?_)
  obtain ⟨h1, ⟨o1, c1, c2, c3⟩, rfl⟩ := ho9
  refine w_bok (pv66 _ _) ?_
  refine w_aloadn f75_53 rfl (by omega) ?_
  refine w_getR f75_54 (by assumption) rfl (by omega) ?_
  refine w_iconst (v := 0) f75_57 (by decide) ?_
  refine w_putI f75_58 (by assumption) ?_
  refine w_aloadn f75_61 rfl (by omega) ?_
  refine w_iconst (v := 0) f75_62 (by decide) ?_
  refine w_putZ f75_63 (by assumption) (by decide) ?_
  refine w_aloadn f75_66 rfl (by omega) ?_
  refine w_getR f75_67 (by assumption) rfl (by omega) ?_
  refine w_iconst (v := 0) f75_70 (by decide) ?_
  refine w_putZ f75_71 (by assumption) (by decide) ?_
  refine w_aloadn f75_74 rfl (by omega) ?_
  refine w_getR f75_75 (by assumption) rfl (by omega) ?_
  refine w_getR f75_78 (by assumption) rfl (by omega) ?_
  refine w_getI f75_81 (by decide) (by assumption) (by exact (hput_k (by omega)).trans ((hput_k (by omega)).trans ((hput_k (by omega)).trans ((o1 _ _ (by omega)).trans e0)))) ?_
  refine w_iret f75_84 rfl ?_
  refine ⟨_, ⟨fun x y x1 x2 x3 x4 => ?_, ?_, ?_, ?_, ?_⟩, rfl⟩
  · exact (if_neg x4).trans ((if_neg x3).trans ((if_neg x2).trans (o1 x y x1)))
  · exact (fin _ o1 c1 c2 c3).fr (fun x y z1 z2 => (hput_k (by omega)).trans ((hput_k (by omega)).trans (hput_k (by omega))))
  · exact (hput_k (by omega)).trans ((hput_k (by omega)).trans hput_s)
  · exact (hput_k (by omega)).trans hput_s
  · exact hput_s
def LdC (r d : Nat) (R : R4) (h : Nat → Nat → Int) (m : PM) : Out → Prop := fun o => match m with
  | .inl e => ∃ h1, ((∀ x y, x ≠ 2 → ¬ (x = 1 ∧ 11 ≤ y ∧ y ≤ 12) → (x < d ∨ d + 56 ≤ x ∨ x = d + 40) → h1 x y = h x y) ∧ (h1 1 11 = e.1 ∧ h1 1 12 = e.2.1) ∧ h1 2 1 = 0) ∧ o = (.inl (AI (-1)), (KS r d, h1, R))
  | .inr s => ∃ h1, ((∀ x y, x ≠ 2 → ¬ (x = 1 ∧ 11 ≤ y ∧ y ≤ 13) → (x < 8 ∨ 21 ≤ x) → ¬ (x = 34 ∧ y = 2) → ¬ (x = 143 ∧ y = 0) → (x < d ∨ d + 56 ≤ x ∨ x = d + 40) → h1 x y = h x y) ∧ (h1 1 11 = 0 ∧ h1 1 12 = -1) ∧ h1 2 1 = 0 ∧ RRl h1 d s.1 ∧ RSt h1 8 (ldM s.1) ∧ h1 34 2 = 0 ∧ h1 1 13 = 0 ∧ h1 143 0 = 0) ∧ o = (.inl (AI (s.1 0)), (KS d r, h1, R))
theorem l75a {h1 : Nat → Nat → Int} {s : PS} (hr : RD2 r) (hd : RD2 d) (hW : WFm s.1) (hz : ∀ y, 12 ≤ y → y ≤ 92 → s.1 y = 0) (hR : RRl h1 d s.1) (o1 : ∀ x y, x ≠ 2 → ¬ (x = 1 ∧ 11 ≤ y ∧ y ≤ 12) → (x < d ∨ d + 56 ≤ x ∨ x = d + 40) → h1 x y = h x y) (e1 : h1 1 11 = 0 ∧ h1 1 12 = -1) (e2 : h1 2 1 = 0) : Rn (ev 75 24 [AR 1, AU] [] (KS r d, h1, R)) (LdC r d R h (.inr s)) := by
  have k1 := @kd_1 r d
  have r0 : 156 ≤ r := by unfold RD2 at hr; omega
  have d0 : 156 ≤ d := by unfold RD2 at hd; omega
  have g := (l75b (x := r) (r := d) (d := r) (R := R) hd hW hz hR).mono (Q1 := LdC r d R h (.inr s)) (fun o ⟨h2, ⟨p1, p2, p3, p4, p5⟩, e⟩ => ⟨h2, ⟨fun x y x1 x2 x3 x4 x5 x6 => (p1 x y x3 x4 (by omega) x5).trans (o1 x y x1 (by omega) x6), ⟨(p1 _ _ (by omega) (by omega) (by omega) (by omega)).trans e1.1, (p1 _ _ (by omega) (by omega) (by omega) (by omega)).trans e1.2⟩, (p1 _ _ (by omega) (by omega) (by omega) (by omega)).trans e2, ⟨hR.1.fr hW.1 (fun x y z1 z2 => p1 x y (by omega) (by omega) (by omega) (by omega)), hR.2.fr (fun x y z => p1 x y (by omega) (by omega) (by omega) (by omega))⟩, p2, p3, p4, p5⟩, e⟩)
  refine w_aloadn f75_24 rfl (by omega) ?_
  refine w_getR f75_25 (by assumption) rfl (by omega) ?_
  refine w_astoren f75_28 (by omega) (Nat.le_of_ble_eq_true rfl) (sto_2_1 rfl) ?_
  refine w_aloadn f75_29 rfl (by omega) ?_
  refine w_aloadn f75_30 rfl (by omega) ?_
  refine w_getR f75_31 (by assumption) rfl (by omega) ?_
  refine w_putR f75_34 (okd_of k1) (by omega) ?_
  show Rn (ev 75 37 [AR 1, AR r] [] (KS d d, h1, R)) _
  have k1d := @kd_1 d d
  refine w_aloadn f75_37 rfl (by omega) ?_
  refine w_aloadn f75_38 rfl (by omega) ?_
  refine w_putR f75_39 (okd_of k1d) (by omega) ?_
  exact g
theorem l75f {h1 : Nat → Nat → Int} {e : Int × Int × (Nat → Int)} {m : PM} (hd : RD2 d) (hm : m = .inl e) (q : FT h1 b n e) (f : (∀ x y, x ≠ 2 → ¬ (x = 1 ∧ 11 ≤ y ∧ y ≤ 12) → (x < d ∨ d + 56 ≤ x ∨ x = d + 40) → hput (hput (hput h1 1 11 (h1 2 6)) 1 12 (h1 2 7)) 2 1 0 x y = h x y) ∧ hput (hput (hput h1 1 11 (h1 2 6)) 1 12 (h1 2 7)) 2 1 0 1 11 = h1 2 6 ∧ hput (hput (hput h1 1 11 (h1 2 6)) 1 12 (h1 2 7)) 2 1 0 1 12 = h1 2 7 ∧ hput (hput (hput h1 1 11 (h1 2 6)) 1 12 (h1 2 7)) 2 1 0 2 1 = 0) : Rn (ev 75 11 [AR 1, AU] [] (KS r d, h1, R)) (LdC r d R h m) := by
  have k1 := @kd_1 r d
  have ne := q.1.2.1
  obtain ⟨f1, f2, f3, f4⟩ := f
  rw [hm]
  refine w_aloadn f75_11 rfl (by omega) ?_
  refine w_cV f75_12 (Or.inl rfl) rfl (by omega) (okd_of (by assumption)) rfl ⟨Nat.le_of_ble_eq_true rfl, rfl, Nat.le_of_ble_eq_true rfl⟩ (en137 _) (s137) (pv137 _ _) ?_
  refine w_aloadn f75_15 rfl (by omega) ?_
  refine w_getI f75_16 (by decide) (by assumption) (by exact f2.trans q.1.1) ?_
  refine w_if_eq (t := 24) f75_19 (by decide) (fun c1 => absurd (by assumption) ne) (fun c1 => ?_)
  refine w_iconst (v := -1) f75_22 (by decide) ?_
  refine w_iret f75_23 rfl ?_
  exact ⟨_, ⟨f1, ⟨f2.trans q.1.1, f3.trans q.1.2.2⟩, f4⟩, rfl⟩
theorem s75 {nn : Nat → Int} (hr : RD2 r) (hd : RD2 d) (h40 : h (d + 40) 0 = 0) (hb : h 3 = b) (hn : h 2 1 = n) (h7 : n ≤ 700) (hb0 : ∀ y, 0 ≤ b y) : Rn (ev 75 0 [AR 1, AU] [] (KS r d, h, R)) (LdC r d R h (mTxt b n w nn)) := by
  have k1 := @kd_1 r d
  have k2 := @kd_2 r d
  have d0 : 156 ≤ d := by unfold RD2 at hd; omega
  have hl := shRl (r := r) (d := d) hd
  have l1 := hl.1
  have rep : ∀ h1, FmO d h h1 → (∀ x y, x ≠ 2 → ¬ (x = 1 ∧ 11 ≤ y ∧ y ≤ 12) → (x < d ∨ d + 56 ≤ x ∨ x = d + 40) → hput (hput (hput h1 1 11 (h1 2 6)) 1 12 (h1 2 7)) 2 1 0 x y = h x y) ∧ hput (hput (hput h1 1 11 (h1 2 6)) 1 12 (h1 2 7)) 2 1 0 1 11 = h1 2 6 ∧ hput (hput (hput h1 1 11 (h1 2 6)) 1 12 (h1 2 7)) 2 1 0 1 12 = h1 2 7 ∧ hput (hput (hput h1 1 11 (h1 2 6)) 1 12 (h1 2 7)) 2 1 0 2 1 = 0 := fun h1 f => ⟨fun x y x1 x2 x3 => (hput_k x1).trans ((if_neg (by omega)).trans ((if_neg (by omega)).trans (f x y (by omega) x3))), (hput_k (by decide)).trans ((hput_j (by decide)).trans hput_s), (hput_k (by decide)).trans hput_s, hput_s⟩
  refine w_aloadn f75_0 rfl (by omega) ?_
  refine w_getR f75_1 (by assumption) rfl (by omega) ?_
  refine w_aloadn f75_4 rfl (by omega) ?_
  refine w_getR f75_5 (by assumption) rfl (by omega) ?_
  refine w_qV f75_8 (Or.inl rfl) rfl (by omega) (okd_of (by assumption)) rfl ⟨Nat.le_of_ble_eq_true rfl, rfl, Nat.le_of_ble_eq_true rfl⟩ (en49 _ _) (s49 (w := w) (nn := nn) hl (by omega) h40 hb hn h7 hb0) (fun o9 ho9 => ?_)
  rcases ho9 with ⟨s, h1, ⟨a1, a2, a3, a4⟩, rfl⟩ | ⟨e, h1, ⟨a1, a2, a3⟩, rfl⟩
  rotate_left
  · refine w_bok (pv49 _ _) ?_
    exact l75f hd a1 a2 (rep _ a3)
  refine w_bok (pv49 _ _) ?_
  refine w_aloadn f75_11 rfl (by omega) ?_
  refine w_cV f75_12 (Or.inl rfl) rfl (by omega) (okd_of (by assumption)) rfl ⟨Nat.le_of_ble_eq_true rfl, rfl, Nat.le_of_ble_eq_true rfl⟩ (en137 _) (s137) (pv137 _ _) ?_
  refine w_aloadn f75_15 rfl (by omega) ?_
  refine w_getI f75_16 (by decide) (by assumption) (by exact (rep _ a4).2.1.trans a2.2.1) ?_
  refine w_if_eq (t := 24) f75_19 (by decide) (fun c1 => ?_) (fun c1 => by omega)
  obtain ⟨b1, b2, b3, b4⟩ := rep _ a4
  obtain ⟨z1, z2⟩ := mTxt_z h7 a1
  rw [a1]
  exact l75a hr hd z1 z2 ⟨a3.1.fr z1.1 (fun x y y1 y2 => (hput_k (by omega)).trans ((hput_k (by omega)).trans (hput_k (by omega)))), a3.2.fr (fun x y y1 => (hput_k (by omega)).trans ((hput_k (by omega)).trans (hput_k (by omega))))⟩ b1 ⟨b2.trans a2.2.1, b3.trans a2.2.2⟩ b4
end A

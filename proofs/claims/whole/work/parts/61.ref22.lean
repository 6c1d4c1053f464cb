/-! the reference's reading: operators, actions, three together, new names -/
section A
variable {K : List AKd} {h : Nat → Nat → Int} {R : R4} {σ : Sg} {r d : Nat} {w : Nat → Int} {b : Nat → Int} {n : Int}
def tx_below : List Int := [98, 101, 108, 111, 119]
def tx_atmost : List Int := [97, 116, 109, 111, 115, 116]
def tx_equals : List Int := [101, 113, 117, 97, 108, 115]
def tx_differs : List Int := [100, 105, 102, 102, 101, 114, 115]
def tx_atleast : List Int := [97, 116, 108, 101, 97, 115, 116]
def tx_above : List Int := [97, 98, 111, 118, 101]
def tx_add : List Int := [97, 100, 100]
def tx_sub : List Int := [115, 117, 98]
def tx_set : List Int := [115, 101, 116]
def tx_state : List Int := [115, 116, 97, 116, 101]
def tx_event : List Int := [101, 118, 101, 110, 116]
def tx_var : List Int := [118, 97, 114]
def tx_on : List Int := [111, 110]
def tx_always : List Int := [97, 108, 119, 97, 121, 115]
def tx_inside : List Int := [105, 110, 115, 105, 100, 101]
def tx_goto : List Int := [103, 111, 116, 111]
def tx_when : List Int := [119, 104, 101, 110]
def tx_do : List Int := [100, 111]
def tx_fire : List Int := [102, 105, 114, 101]
def tx_reset : List Int := [114, 101, 115, 101, 116]
def tx_clear : List Int := [99, 108, 101, 97, 114]
theorem s194l {h0 : Nat → Nat → Int} {s : PS} {t : Nat} {l : List Int} (hP : PX h0 b n s h) (ht : t < am_txt.length) (hl : text (t + 1) = l) : ev 194 0 [AR 268, AS (t + 1), AU] [] (KS r d, h, R) = some (.inl (AI (b2i (isW b s.2.1 l = true))), (KS r d, h, R)) := by
  subst hl
  exact s194 ht hP
def pb (m : PM) (f : PS → PM) : PM := match m with
  | .inl e => .inl e
  | .inr s => f s
theorem pb_cases {h0 : Nat → Nat → Int} {m : PM} {o : Out} (q : PB r d R h0 b n m o) : (∃ e, m = .inl e ∧ ∃ h1, PF h0 e h1 ∧ o = (.inl (AI 0), (KS r d, h1, R))) ∨ (∃ s, m = .inr s ∧ ∃ h1, PX h0 b n s h1 ∧ o = (.inl (AI 1), (KS r d, h1, R))) := by
  cases m with
  | inl e => exact Or.inl ⟨e, rfl, q⟩
  | inr s => exact Or.inr ⟨s, rfl, q⟩
theorem PB.f {h0 h1 : Nat → Nat → Int} {m : PM} {e : Int × Int × (Nat → Int)} (hm : m = .inl e) (q : PF h0 e h1) : PB r d R h0 b n m (.inl (AI 0), (KS r d, h1, R)) := by
  subst hm
  exact ⟨h1, q, rfl⟩
theorem PB.t {h0 h1 : Nat → Nat → Int} {m : PM} {s : PS} (hm : m = .inr s) (q : PX h0 b n s h1) : PB r d R h0 b n m (.inl (AI 1), (KS r d, h1, R)) := by
  subst hm
  exact ⟨h1, q, rfl⟩
theorem PB.ex {h0 : Nat → Nat → Int} {m m1 : PM} {o : Out} (hm : m = m1) (q : PB r d R h0 b n m o) : PB r d R h0 b n m1 o := hm ▸ q
def opW (b : Nat → Int) (T : Tk) : Int := if isW b T tx_below = true then 0 else if isW b T tx_atmost = true then 1 else if isW b T tx_equals = true then 2 else if isW b T tx_differs = true then 3 else if isW b T tx_atleast = true then 4 else if isW b T tx_above = true then 5 else -1
def acW (b : Nat → Int) (T : Tk) : Int := if isW b T tx_add = true then 0 else if isW b T tx_sub = true then 1 else if isW b T tx_set = true then 2 else -1
theorem s204 {h0 : Nat → Nat → Int} {s : PS} (hP : PX h0 b n s h) : ev 204 0 [AR 268] [] (KS r d, h, R) = some (.inl (AI (opW b s.2.1)), (KS r d, h, R)) := by
  refine Rn.eq ?_
  have k0 := @kd_268 r d
  refine w_aloadn f204_0 rfl (by omega) ?_
  refine w_ldc f204_1 ?_
  refine w_cV f204_3 (Or.inl rfl) rfl (by omega) (okd_of (by assumption)) rfl ⟨Nat.le_of_ble_eq_true rfl, rfl, Nat.le_of_ble_eq_true rfl⟩ (en194 _ _) (s194l (t := 30) (l := tx_below) hP (by decide) rfl) (pv194 _ _) ?_
  refine w_ifb_eq (t := 11) f204_6 (by decide) (fun c1 => ?_) (fun c1 => ?_)
  · refine w_aloadn f204_11 rfl (by omega) ?_
    refine w_ldc f204_12 ?_
    refine w_cV f204_14 (Or.inl rfl) rfl (by omega) (okd_of (by assumption)) rfl ⟨Nat.le_of_ble_eq_true rfl, rfl, Nat.le_of_ble_eq_true rfl⟩ (en194 _ _) (s194l (t := 31) (l := tx_atmost) hP (by decide) rfl) (pv194 _ _) ?_
    refine w_ifb_eq (t := 22) f204_17 (by decide) (fun c2 => ?_) (fun c2 => ?_)
    · refine w_aloadn f204_22 rfl (by omega) ?_
      refine w_ldc f204_23 ?_
      refine w_cV f204_25 (Or.inl rfl) rfl (by omega) (okd_of (by assumption)) rfl ⟨Nat.le_of_ble_eq_true rfl, rfl, Nat.le_of_ble_eq_true rfl⟩ (en194 _ _) (s194l (t := 32) (l := tx_equals) hP (by decide) rfl) (pv194 _ _) ?_
      refine w_ifb_eq (t := 33) f204_28 (by decide) (fun c3 => ?_) (fun c3 => ?_)
      · refine w_aloadn f204_33 rfl (by omega) ?_
        refine w_ldc f204_34 ?_
        refine w_cV f204_36 (Or.inl rfl) rfl (by omega) (okd_of (by assumption)) rfl ⟨Nat.le_of_ble_eq_true rfl, rfl, Nat.le_of_ble_eq_true rfl⟩ (en194 _ _) (s194l (t := 33) (l := tx_differs) hP (by decide) rfl) (pv194 _ _) ?_
        refine w_ifb_eq (t := 44) f204_39 (by decide) (fun c4 => ?_) (fun c4 => ?_)
        · refine w_aloadn f204_44 rfl (by omega) ?_
          refine w_ldc f204_45 ?_
          refine w_cV f204_47 (Or.inl rfl) rfl (by omega) (okd_of (by assumption)) rfl ⟨Nat.le_of_ble_eq_true rfl, rfl, Nat.le_of_ble_eq_true rfl⟩ (en194 _ _) (s194l (t := 34) (l := tx_atleast) hP (by decide) rfl) (pv194 _ _) ?_
          refine w_ifb_eq (t := 55) f204_50 (by decide) (fun c5 => ?_) (fun c5 => ?_)
          · refine w_aloadn f204_55 rfl (by omega) ?_
            refine w_ldc f204_56 ?_
            refine w_cV f204_58 (Or.inl rfl) rfl (by omega) (okd_of (by assumption)) rfl ⟨Nat.le_of_ble_eq_true rfl, rfl, Nat.le_of_ble_eq_true rfl⟩ (en194 _ _) (s194l (t := 35) (l := tx_above) hP (by decide) rfl) (pv194 _ _) ?_
            refine w_ifb_eq (t := 68) f204_61 (by decide) (fun c6 => ?_) (fun c6 => ?_)
            · refine w_iconst (v := -1) f204_68 (by decide) ?_
              refine w_iret f204_69 rfl ?_
              simp only [opW, *, if_true, if_false, reduceIte, Bool.false_eq_true]
            · refine w_iconst (v := 5) f204_64 (by decide) ?_
              refine w_goto (t := 69) f204_65 (by decide) ?_
              refine w_iret f204_69 rfl ?_
              simp only [opW, *, if_true, if_false, reduceIte, Bool.false_eq_true]
          · refine w_iconst (v := 4) f204_53 (by decide) ?_
            refine w_iret f204_54 rfl ?_
            simp only [opW, *, if_true, if_false, reduceIte, Bool.false_eq_true]
        · refine w_iconst (v := 3) f204_42 (by decide) ?_
          refine w_iret f204_43 rfl ?_
          simp only [opW, *, if_true, if_false, reduceIte, Bool.false_eq_true]
      · refine w_iconst (v := 2) f204_31 (by decide) ?_
        refine w_iret f204_32 rfl ?_
        simp only [opW, *, if_true, if_false, reduceIte, Bool.false_eq_true]
    · refine w_iconst (v := 1) f204_20 (by decide) ?_
      refine w_iret f204_21 rfl ?_
      simp only [opW, *, if_true, if_false, reduceIte, Bool.false_eq_true]
  · refine w_iconst (v := 0) f204_9 (by decide) ?_
    refine w_iret f204_10 rfl ?_
    simp only [opW, *, if_true, if_false, reduceIte, Bool.false_eq_true]
theorem s205 {h0 : Nat → Nat → Int} {s : PS} (hP : PX h0 b n s h) : ev 205 0 [AR 268] [] (KS r d, h, R) = some (.inl (AI (acW b s.2.1)), (KS r d, h, R)) := by
  refine Rn.eq ?_
  have k0 := @kd_268 r d
  refine w_aloadn f205_0 rfl (by omega) ?_
  refine w_ldc f205_1 ?_
  refine w_cV f205_3 (Or.inl rfl) rfl (by omega) (okd_of (by assumption)) rfl ⟨Nat.le_of_ble_eq_true rfl, rfl, Nat.le_of_ble_eq_true rfl⟩ (en194 _ _) (s194l (t := 36) (l := tx_add) hP (by decide) rfl) (pv194 _ _) ?_
  refine w_ifb_eq (t := 11) f205_6 (by decide) (fun c1 => ?_) (fun c1 => ?_)
  · refine w_aloadn f205_11 rfl (by omega) ?_
    refine w_ldc f205_12 ?_
    refine w_cV f205_14 (Or.inl rfl) rfl (by omega) (okd_of (by assumption)) rfl ⟨Nat.le_of_ble_eq_true rfl, rfl, Nat.le_of_ble_eq_true rfl⟩ (en194 _ _) (s194l (t := 37) (l := tx_sub) hP (by decide) rfl) (pv194 _ _) ?_
    refine w_ifb_eq (t := 22) f205_17 (by decide) (fun c2 => ?_) (fun c2 => ?_)
    · refine w_aloadn f205_22 rfl (by omega) ?_
      refine w_ldc f205_23 ?_
      refine w_cV f205_25 (Or.inl rfl) rfl (by omega) (okd_of (by assumption)) rfl ⟨Nat.le_of_ble_eq_true rfl, rfl, Nat.le_of_ble_eq_true rfl⟩ (en194 _ _) (s194l (t := 38) (l := tx_set) hP (by decide) rfl) (pv194 _ _) ?_
      refine w_ifb_eq (t := 35) f205_28 (by decide) (fun c3 => ?_) (fun c3 => ?_)
      · refine w_iconst (v := -1) f205_35 (by decide) ?_
        refine w_iret f205_36 rfl ?_
        simp only [acW, *, if_true, if_false, reduceIte, Bool.false_eq_true]
      · refine w_iconst (v := 2) f205_31 (by decide) ?_
        refine w_goto (t := 36) f205_32 (by decide) ?_
        refine w_iret f205_36 rfl ?_
        simp only [acW, *, if_true, if_false, reduceIte, Bool.false_eq_true]
    · refine w_iconst (v := 1) f205_20 (by decide) ?_
      refine w_iret f205_21 rfl ?_
      simp only [acW, *, if_true, if_false, reduceIte, Bool.false_eq_true]
  · refine w_iconst (v := 0) f205_9 (by decide) ?_
    refine w_iret f205_10 rfl ?_
    simp only [acW, *, if_true, if_false, reduceIte, Bool.false_eq_true]
def opx (b : Nat → Int) (g : Int) (T : Tk) : Int := if g = 0 then acW b T else opW b T
def mThr (b : Nat → Int) (n : Int) (k g : Int) (s : PS) : PM := pb (mKn b n k 483 2 s) (fun s => pb (mWrd b n (if opx b g s.2.1 = -1 then 0 else 1) (setN s (k + 1) (opx b g s.2.1))) (fun s => mNum b n (k + 2) s))
theorem s206 {h0 : Nat → Nat → Int} {s : PS} {k g : Int} (hP : PX h0 b n s h) (hk : 0 ≤ k ∧ k ≤ 6) (hV : 0 ≤ s.1 2 ∧ s.1 2 ≤ 3) : Rn (ev 206 0 [AR 268, AI k, AI g] [] (KS r d, h, R)) (PB r d R h0 b n (mThr b n k g s)) := by
  have k0 := @kd_268 r d
  have k1 := @kd_276 r d
  refine w_aloadn f206_0 rfl (by omega) ?_
  refine w_iloadn f206_1 rfl ?_
  refine w_sipush (v := 483) f206_2 (by decide) ?_
  refine w_iconst (v := 2) f206_5 (by decide) ?_
  refine w_qV f206_6 (Or.inl rfl) rfl (by omega) (okd_of (by assumption)) rfl ⟨Nat.le_of_ble_eq_true rfl, rfl, Nat.le_of_ble_eq_true rfl⟩ (en202 _ _ _ _) (s202 (m := 3) hP (by omega) (Or.inr (Or.inr ⟨rfl, rfl, rfl⟩)) hV) (fun o9 ho9 => ?_)
  rcases pb_cases ho9 with ⟨e1, m1, h1, q1, rfl⟩ | ⟨s1, m1, h1, q1, rfl⟩
  · refine w_bok (pv202 _ _) ?_
    refine w_if_ne (t := 14) f206_9 (by decide) (fun e9 => absurd e9 (by decide)) (fun _ => ?_)
    refine w_iconst (v := 0) f206_12 (by decide) ?_
    refine w_zret f206_13 rfl (by decide) ?_
    first | (refine PB.f ?_ q1; simp only [mThr, pb, m1]; done) | (refine PB.f ?_ q2; simp only [mThr, pb, m1]; (first | rw [show opx b g s1.2.1 = acW b s1.2.1 from if_pos (by assumption)] | rw [show opx b g s1.2.1 = opW b s1.2.1 from if_neg (by assumption)]); (first | rw [if_pos (by assumption)] | rw [if_neg (by assumption)]); simp only [m2]; (first | done | exact m3); done) | (refine PB.f ?_ q3; simp only [mThr, pb, m1]; (first | rw [show opx b g s1.2.1 = acW b s1.2.1 from if_pos (by assumption)] | rw [show opx b g s1.2.1 = opW b s1.2.1 from if_neg (by assumption)]); (first | rw [if_pos (by assumption)] | rw [if_neg (by assumption)]); simp only [m2]; (first | done | exact m3); done) | (refine PB.t ?_ q3; simp only [mThr, pb, m1]; (first | rw [show opx b g s1.2.1 = acW b s1.2.1 from if_pos (by assumption)] | rw [show opx b g s1.2.1 = opW b s1.2.1 from if_neg (by assumption)]); (first | rw [if_pos (by assumption)] | rw [if_neg (by assumption)]); simp only [m2]; (first | done | exact m3); done)
  · refine w_bok (pv202 _ _) ?_
    refine w_if_ne (t := 14) f206_9 (by decide) (fun _ => ?_) (fun e9 => absurd e9 (by decide))
    refine w_aloadn f206_14 rfl (by omega) ?_
    refine w_getR f206_15 (by assumption) rfl (by omega) ?_
    refine w_iloadn f206_18 rfl ?_
    refine w_iconst (v := 1) f206_19 (by decide) ?_
    refine w_iaddn f206_20 (by omega) ?_
    refine w_iloadn f206_21 rfl ?_
    refine w_if_eq (t := 32) f206_22 (by decide) (fun c3 => ?_) (fun c3 => ?_)
    · refine w_aloadn f206_32 rfl (by omega) ?_
      refine w_cV f206_33 (Or.inl rfl) rfl (by omega) (okd_of (by assumption)) rfl ⟨Nat.le_of_ble_eq_true rfl, rfl, Nat.le_of_ble_eq_true rfl⟩ (en205 _) (s205 q1) (pv205 _ _) ?_
      refine w_iast f206_36 (by assumption) (by omega) ?_
      refine w_aloadn f206_37 rfl (by omega) ?_
      refine w_aloadn f206_38 rfl (by omega) ?_
      refine w_getR f206_39 (by assumption) rfl (by omega) ?_
      refine w_iloadn f206_42 rfl ?_
      refine w_iconst (v := 1) f206_43 (by decide) ?_
      refine w_iaddn f206_44 (by omega) ?_
      refine w_iald f206_45 (by assumption) (by omega) (by exact hput_s) ?_
      refine w_iconst (v := -1) f206_46 (by decide) ?_
      refine w_ic_eq (t := 54) f206_47 (by decide) (fun c4 => ?_) (fun c4 => ?_)
      · refine w_iconst (v := 0) f206_54 (by decide) ?_
        refine w_qV f206_55 (Or.inl rfl) rfl (by omega) (okd_of (by assumption)) rfl ⟨Nat.le_of_ble_eq_true rfl, rfl, Nat.le_of_ble_eq_true rfl⟩ (en203 _ _) (s203 q1.putN) (fun o9 ho9 => ?_)
        rcases pb_cases ho9 with ⟨e2, m2, h2, q2, rfl⟩ | ⟨s2, m2, h2, q2, rfl⟩
        · refine w_bok (pv203 _ _) ?_
          refine w_if_eq (t := 75) f206_58 (by decide) (fun _ => ?_) (fun e9 => absurd e9 (by decide))
          refine w_iconst (v := 0) f206_75 (by decide) ?_
          refine w_zret f206_76 rfl (by decide) ?_
          first | (refine PB.f ?_ q1; simp only [mThr, pb, m1]; done) | (refine PB.f ?_ q2; simp only [mThr, pb, m1]; (first | rw [show opx b g s1.2.1 = acW b s1.2.1 from if_pos (by assumption)] | rw [show opx b g s1.2.1 = opW b s1.2.1 from if_neg (by assumption)]); (first | rw [if_pos (by assumption)] | rw [if_neg (by assumption)]); simp only [m2]; (first | done | exact m3); done) | (refine PB.f ?_ q3; simp only [mThr, pb, m1]; (first | rw [show opx b g s1.2.1 = acW b s1.2.1 from if_pos (by assumption)] | rw [show opx b g s1.2.1 = opW b s1.2.1 from if_neg (by assumption)]); (first | rw [if_pos (by assumption)] | rw [if_neg (by assumption)]); simp only [m2]; (first | done | exact m3); done) | (refine PB.t ?_ q3; simp only [mThr, pb, m1]; (first | rw [show opx b g s1.2.1 = acW b s1.2.1 from if_pos (by assumption)] | rw [show opx b g s1.2.1 = opW b s1.2.1 from if_neg (by assumption)]); (first | rw [if_pos (by assumption)] | rw [if_neg (by assumption)]); simp only [m2]; (first | done | exact m3); done)
        · refine w_bok (pv203 _ _) ?_
          refine w_if_eq (t := 75) f206_58 (by decide) (fun e9 => absurd e9 (by decide)) (fun _ => ?_)
          refine w_aloadn f206_61 rfl (by omega) ?_
          refine w_iloadn f206_62 rfl ?_
          refine w_iconst (v := 2) f206_63 (by decide) ?_
          refine w_iaddn f206_64 (by omega) ?_
          refine w_qV f206_65 (Or.inl rfl) rfl (by omega) (okd_of (by assumption)) rfl ⟨Nat.le_of_ble_eq_true rfl, rfl, Nat.le_of_ble_eq_true rfl⟩ (en201 _ _) (s201 q2 (by omega)) (fun o9 ho9 => ?_)
          rcases pb_cases ho9 with ⟨e3, m3, h3, q3, rfl⟩ | ⟨s3, m3, h3, q3, rfl⟩
          · refine w_bok (pv201 _ _) ?_
            refine w_if_eq (t := 75) f206_68 (by decide) (fun _ => ?_) (fun e9 => absurd e9 (by decide))
            refine w_iconst (v := 0) f206_75 (by decide) ?_
            refine w_zret f206_76 rfl (by decide) ?_
            first | (refine PB.f ?_ q1; simp only [mThr, pb, m1]; done) | (refine PB.f ?_ q2; simp only [mThr, pb, m1]; (first | rw [show opx b g s1.2.1 = acW b s1.2.1 from if_pos (by assumption)] | rw [show opx b g s1.2.1 = opW b s1.2.1 from if_neg (by assumption)]); (first | rw [if_pos (by assumption)] | rw [if_neg (by assumption)]); simp only [m2]; (first | done | exact m3); done) | (refine PB.f ?_ q3; simp only [mThr, pb, m1]; (first | rw [show opx b g s1.2.1 = acW b s1.2.1 from if_pos (by assumption)] | rw [show opx b g s1.2.1 = opW b s1.2.1 from if_neg (by assumption)]); (first | rw [if_pos (by assumption)] | rw [if_neg (by assumption)]); simp only [m2]; (first | done | exact m3); done) | (refine PB.t ?_ q3; simp only [mThr, pb, m1]; (first | rw [show opx b g s1.2.1 = acW b s1.2.1 from if_pos (by assumption)] | rw [show opx b g s1.2.1 = opW b s1.2.1 from if_neg (by assumption)]); (first | rw [if_pos (by assumption)] | rw [if_neg (by assumption)]); simp only [m2]; (first | done | exact m3); done)
          · refine w_bok (pv201 _ _) ?_
            refine w_if_eq (t := 75) f206_68 (by decide) (fun e9 => absurd e9 (by decide)) (fun _ => ?_)
            refine w_iconst (v := 1) f206_71 (by decide) ?_
            refine w_goto (t := 76) f206_72 (by decide) ?_
            refine w_zret f206_76 rfl (by decide) ?_
            first | (refine PB.f ?_ q1; simp only [mThr, pb, m1]; done) | (refine PB.f ?_ q2; simp only [mThr, pb, m1]; (first | rw [show opx b g s1.2.1 = acW b s1.2.1 from if_pos (by assumption)] | rw [show opx b g s1.2.1 = opW b s1.2.1 from if_neg (by assumption)]); (first | rw [if_pos (by assumption)] | rw [if_neg (by assumption)]); simp only [m2]; (first | done | exact m3); done) | (refine PB.f ?_ q3; simp only [mThr, pb, m1]; (first | rw [show opx b g s1.2.1 = acW b s1.2.1 from if_pos (by assumption)] | rw [show opx b g s1.2.1 = opW b s1.2.1 from if_neg (by assumption)]); (first | rw [if_pos (by assumption)] | rw [if_neg (by assumption)]); simp only [m2]; (first | done | exact m3); done) | (refine PB.t ?_ q3; simp only [mThr, pb, m1]; (first | rw [show opx b g s1.2.1 = acW b s1.2.1 from if_pos (by assumption)] | rw [show opx b g s1.2.1 = opW b s1.2.1 from if_neg (by assumption)]); (first | rw [if_pos (by assumption)] | rw [if_neg (by assumption)]); simp only [m2]; (first | done | exact m3); done)
      · refine w_iconst (v := 1) f206_50 (by decide) ?_
        refine w_goto (t := 55) f206_51 (by decide) ?_
        refine w_qV f206_55 (Or.inl rfl) rfl (by omega) (okd_of (by assumption)) rfl ⟨Nat.le_of_ble_eq_true rfl, rfl, Nat.le_of_ble_eq_true rfl⟩ (en203 _ _) (s203 q1.putN) (fun o9 ho9 => ?_)
        rcases pb_cases ho9 with ⟨e2, m2, h2, q2, rfl⟩ | ⟨s2, m2, h2, q2, rfl⟩
        · refine w_bok (pv203 _ _) ?_
          refine w_if_eq (t := 75) f206_58 (by decide) (fun _ => ?_) (fun e9 => absurd e9 (by decide))
          refine w_iconst (v := 0) f206_75 (by decide) ?_
          refine w_zret f206_76 rfl (by decide) ?_
          first | (refine PB.f ?_ q1; simp only [mThr, pb, m1]; done) | (refine PB.f ?_ q2; simp only [mThr, pb, m1]; (first | rw [show opx b g s1.2.1 = acW b s1.2.1 from if_pos (by assumption)] | rw [show opx b g s1.2.1 = opW b s1.2.1 from if_neg (by assumption)]); (first | rw [if_pos (by assumption)] | rw [if_neg (by assumption)]); simp only [m2]; (first | done | exact m3); done) | (refine PB.f ?_ q3; simp only [mThr, pb, m1]; (first | rw [show opx b g s1.2.1 = acW b s1.2.1 from if_pos (by assumption)] | rw [show opx b g s1.2.1 = opW b s1.2.1 from if_neg (by assumption)]); (first | rw [if_pos (by assumption)] | rw [if_neg (by assumption)]); simp only [m2]; (first | done | exact m3); done) | (refine PB.t ?_ q3; simp only [mThr, pb, m1]; (first | rw [show opx b g s1.2.1 = acW b s1.2.1 from if_pos (by assumption)] | rw [show opx b g s1.2.1 = opW b s1.2.1 from if_neg (by assumption)]); (first | rw [if_pos (by assumption)] | rw [if_neg (by assumption)]); simp only [m2]; (first | done | exact m3); done)
        · refine w_bok (pv203 _ _) ?_
          refine w_if_eq (t := 75) f206_58 (by decide) (fun e9 => absurd e9 (by decide)) (fun _ => ?_)
          refine w_aloadn f206_61 rfl (by omega) ?_
          refine w_iloadn f206_62 rfl ?_
          refine w_iconst (v := 2) f206_63 (by decide) ?_
          refine w_iaddn f206_64 (by omega) ?_
          refine w_qV f206_65 (Or.inl rfl) rfl (by omega) (okd_of (by assumption)) rfl ⟨Nat.le_of_ble_eq_true rfl, rfl, Nat.le_of_ble_eq_true rfl⟩ (en201 _ _) (s201 q2 (by omega)) (fun o9 ho9 => ?_)
          rcases pb_cases ho9 with ⟨e3, m3, h3, q3, rfl⟩ | ⟨s3, m3, h3, q3, rfl⟩
          · refine w_bok (pv201 _ _) ?_
            refine w_if_eq (t := 75) f206_68 (by decide) (fun _ => ?_) (fun e9 => absurd e9 (by decide))
            refine w_iconst (v := 0) f206_75 (by decide) ?_
            refine w_zret f206_76 rfl (by decide) ?_
            first | (refine PB.f ?_ q1; simp only [mThr, pb, m1]; done) | (refine PB.f ?_ q2; simp only [mThr, pb, m1]; (first | rw [show opx b g s1.2.1 = acW b s1.2.1 from if_pos (by assumption)] | rw [show opx b g s1.2.1 = opW b s1.2.1 from if_neg (by assumption)]); (first | rw [if_pos (by assumption)] | rw [if_neg (by assumption)]); simp only [m2]; (first | done | exact m3); done) | (refine PB.f ?_ q3; simp only [mThr, pb, m1]; (first | rw [show opx b g s1.2.1 = acW b s1.2.1 from if_pos (by assumption)] | rw [show opx b g s1.2.1 = opW b s1.2.1 from if_neg (by assumption)]); (first | rw [if_pos (by assumption)] | rw [if_neg (by assumption)]); simp only [m2]; (first | done | exact m3); done) | (refine PB.t ?_ q3; simp only [mThr, pb, m1]; (first | rw [show opx b g s1.2.1 = acW b s1.2.1 from if_pos (by assumption)] | rw [show opx b g s1.2.1 = opW b s1.2.1 from if_neg (by assumption)]); (first | rw [if_pos (by assumption)] | rw [if_neg (by assumption)]); simp only [m2]; (first | done | exact m3); done)
          · refine w_bok (pv201 _ _) ?_
            refine w_if_eq (t := 75) f206_68 (by decide) (fun e9 => absurd e9 (by decide)) (fun _ => ?_)
            refine w_iconst (v := 1) f206_71 (by decide) ?_
            refine w_goto (t := 76) f206_72 (by decide) ?_
            refine w_zret f206_76 rfl (by decide) ?_
            first | (refine PB.f ?_ q1; simp only [mThr, pb, m1]; done) | (refine PB.f ?_ q2; simp only [mThr, pb, m1]; (first | rw [show opx b g s1.2.1 = acW b s1.2.1 from if_pos (by assumption)] | rw [show opx b g s1.2.1 = opW b s1.2.1 from if_neg (by assumption)]); (first | rw [if_pos (by assumption)] | rw [if_neg (by assumption)]); simp only [m2]; (first | done | exact m3); done) | (refine PB.f ?_ q3; simp only [mThr, pb, m1]; (first | rw [show opx b g s1.2.1 = acW b s1.2.1 from if_pos (by assumption)] | rw [show opx b g s1.2.1 = opW b s1.2.1 from if_neg (by assumption)]); (first | rw [if_pos (by assumption)] | rw [if_neg (by assumption)]); simp only [m2]; (first | done | exact m3); done) | (refine PB.t ?_ q3; simp only [mThr, pb, m1]; (first | rw [show opx b g s1.2.1 = acW b s1.2.1 from if_pos (by assumption)] | rw [show opx b g s1.2.1 = opW b s1.2.1 from if_neg (by assumption)]); (first | rw [if_pos (by assumption)] | rw [if_neg (by assumption)]); simp only [m2]; (first | done | exact m3); done)
    · refine w_aloadn f206_25 rfl (by omega) ?_
      refine w_cV f206_26 (Or.inl rfl) rfl (by omega) (okd_of (by assumption)) rfl ⟨Nat.le_of_ble_eq_true rfl, rfl, Nat.le_of_ble_eq_true rfl⟩ (en204 _) (s204 q1) (pv204 _ _) ?_
      refine w_goto (t := 36) f206_29 (by decide) ?_
      refine w_iast f206_36 (by assumption) (by omega) ?_
      refine w_aloadn f206_37 rfl (by omega) ?_
      refine w_aloadn f206_38 rfl (by omega) ?_
      refine w_getR f206_39 (by assumption) rfl (by omega) ?_
      refine w_iloadn f206_42 rfl ?_
      refine w_iconst (v := 1) f206_43 (by decide) ?_
      refine w_iaddn f206_44 (by omega) ?_
      refine w_iald f206_45 (by assumption) (by omega) (by exact hput_s) ?_
      refine w_iconst (v := -1) f206_46 (by decide) ?_
      refine w_ic_eq (t := 54) f206_47 (by decide) (fun c13 => ?_) (fun c13 => ?_)
      · refine w_iconst (v := 0) f206_54 (by decide) ?_
        refine w_qV f206_55 (Or.inl rfl) rfl (by omega) (okd_of (by assumption)) rfl ⟨Nat.le_of_ble_eq_true rfl, rfl, Nat.le_of_ble_eq_true rfl⟩ (en203 _ _) (s203 q1.putN) (fun o9 ho9 => ?_)
        rcases pb_cases ho9 with ⟨e2, m2, h2, q2, rfl⟩ | ⟨s2, m2, h2, q2, rfl⟩
        · refine w_bok (pv203 _ _) ?_
          refine w_if_eq (t := 75) f206_58 (by decide) (fun _ => ?_) (fun e9 => absurd e9 (by decide))
          refine w_iconst (v := 0) f206_75 (by decide) ?_
          refine w_zret f206_76 rfl (by decide) ?_
          first | (refine PB.f ?_ q1; simp only [mThr, pb, m1]; done) | (refine PB.f ?_ q2; simp only [mThr, pb, m1]; (first | rw [show opx b g s1.2.1 = acW b s1.2.1 from if_pos (by assumption)] | rw [show opx b g s1.2.1 = opW b s1.2.1 from if_neg (by assumption)]); (first | rw [if_pos (by assumption)] | rw [if_neg (by assumption)]); simp only [m2]; (first | done | exact m3); done) | (refine PB.f ?_ q3; simp only [mThr, pb, m1]; (first | rw [show opx b g s1.2.1 = acW b s1.2.1 from if_pos (by assumption)] | rw [show opx b g s1.2.1 = opW b s1.2.1 from if_neg (by assumption)]); (first | rw [if_pos (by assumption)] | rw [if_neg (by assumption)]); simp only [m2]; (first | done | exact m3); done) | (refine PB.t ?_ q3; simp only [mThr, pb, m1]; (first | rw [show opx b g s1.2.1 = acW b s1.2.1 from if_pos (by assumption)] | rw [show opx b g s1.2.1 = opW b s1.2.1 from if_neg (by assumption)]); (first | rw [if_pos (by assumption)] | rw [if_neg (by assumption)]); simp only [m2]; (first | done | exact m3); done)
        · refine w_bok (pv203 _ _) ?_
          refine w_if_eq (t := 75) f206_58 (by decide) (fun e9 => absurd e9 (by decide)) (fun _ => ?_)
          refine w_aloadn f206_61 rfl (by omega) ?_
          refine w_iloadn f206_62 rfl ?_
          refine w_iconst (v := 2) f206_63 (by decide) ?_
          refine w_iaddn f206_64 (by omega) ?_
          refine w_qV f206_65 (Or.inl rfl) rfl (by omega) (okd_of (by assumption)) rfl ⟨Nat.le_of_ble_eq_true rfl, rfl, Nat.le_of_ble_eq_true rfl⟩ (en201 _ _) (s201 q2 (by omega)) (fun o9 ho9 => ?_)
          rcases pb_cases ho9 with ⟨e3, m3, h3, q3, rfl⟩ | ⟨s3, m3, h3, q3, rfl⟩
          · refine w_bok (pv201 _ _) ?_
            refine w_if_eq (t := 75) f206_68 (by decide) (fun _ => ?_) (fun e9 => absurd e9 (by decide))
            refine w_iconst (v := 0) f206_75 (by decide) ?_
            refine w_zret f206_76 rfl (by decide) ?_
            first | (refine PB.f ?_ q1; simp only [mThr, pb, m1]; done) | (refine PB.f ?_ q2; simp only [mThr, pb, m1]; (first | rw [show opx b g s1.2.1 = acW b s1.2.1 from if_pos (by assumption)] | rw [show opx b g s1.2.1 = opW b s1.2.1 from if_neg (by assumption)]); (first | rw [if_pos (by assumption)] | rw [if_neg (by assumption)]); simp only [m2]; (first | done | exact m3); done) | (refine PB.f ?_ q3; simp only [mThr, pb, m1]; (first | rw [show opx b g s1.2.1 = acW b s1.2.1 from if_pos (by assumption)] | rw [show opx b g s1.2.1 = opW b s1.2.1 from if_neg (by assumption)]); (first | rw [if_pos (by assumption)] | rw [if_neg (by assumption)]); simp only [m2]; (first | done | exact m3); done) | (refine PB.t ?_ q3; simp only [mThr, pb, m1]; (first | rw [show opx b g s1.2.1 = acW b s1.2.1 from if_pos (by assumption)] | rw [show opx b g s1.2.1 = opW b s1.2.1 from if_neg (by assumption)]); (first | rw [if_pos (by assumption)] | rw [if_neg (by assumption)]); simp only [m2]; (first | done | exact m3); done)
          · refine w_bok (pv201 _ _) ?_
            refine w_if_eq (t := 75) f206_68 (by decide) (fun e9 => absurd e9 (by decide)) (fun _ => ?_)
            refine w_iconst (v := 1) f206_71 (by decide) ?_
            refine w_goto (t := 76) f206_72 (by decide) ?_
            refine w_zret f206_76 rfl (by decide) ?_
            first | (refine PB.f ?_ q1; simp only [mThr, pb, m1]; done) | (refine PB.f ?_ q2; simp only [mThr, pb, m1]; (first | rw [show opx b g s1.2.1 = acW b s1.2.1 from if_pos (by assumption)] | rw [show opx b g s1.2.1 = opW b s1.2.1 from if_neg (by assumption)]); (first | rw [if_pos (by assumption)] | rw [if_neg (by assumption)]); simp only [m2]; (first | done | exact m3); done) | (refine PB.f ?_ q3; simp only [mThr, pb, m1]; (first | rw [show opx b g s1.2.1 = acW b s1.2.1 from if_pos (by assumption)] | rw [show opx b g s1.2.1 = opW b s1.2.1 from if_neg (by assumption)]); (first | rw [if_pos (by assumption)] | rw [if_neg (by assumption)]); simp only [m2]; (first | done | exact m3); done) | (refine PB.t ?_ q3; simp only [mThr, pb, m1]; (first | rw [show opx b g s1.2.1 = acW b s1.2.1 from if_pos (by assumption)] | rw [show opx b g s1.2.1 = opW b s1.2.1 from if_neg (by assumption)]); (first | rw [if_pos (by assumption)] | rw [if_neg (by assumption)]); simp only [m2]; (first | done | exact m3); done)
      · refine w_iconst (v := 1) f206_50 (by decide) ?_
        refine w_goto (t := 55) f206_51 (by decide) ?_
        refine w_qV f206_55 (Or.inl rfl) rfl (by omega) (okd_of (by assumption)) rfl ⟨Nat.le_of_ble_eq_true rfl, rfl, Nat.le_of_ble_eq_true rfl⟩ (en203 _ _) (s203 q1.putN) (fun o9 ho9 => ?_)
        rcases pb_cases ho9 with ⟨e2, m2, h2, q2, rfl⟩ | ⟨s2, m2, h2, q2, rfl⟩
        · refine w_bok (pv203 _ _) ?_
          refine w_if_eq (t := 75) f206_58 (by decide) (fun _ => ?_) (fun e9 => absurd e9 (by decide))
          refine w_iconst (v := 0) f206_75 (by decide) ?_
          refine w_zret f206_76 rfl (by decide) ?_
          first | (refine PB.f ?_ q1; simp only [mThr, pb, m1]; done) | (refine PB.f ?_ q2; simp only [mThr, pb, m1]; (first | rw [show opx b g s1.2.1 = acW b s1.2.1 from if_pos (by assumption)] | rw [show opx b g s1.2.1 = opW b s1.2.1 from if_neg (by assumption)]); (first | rw [if_pos (by assumption)] | rw [if_neg (by assumption)]); simp only [m2]; (first | done | exact m3); done) | (refine PB.f ?_ q3; simp only [mThr, pb, m1]; (first | rw [show opx b g s1.2.1 = acW b s1.2.1 from if_pos (by assumption)] | rw [show opx b g s1.2.1 = opW b s1.2.1 from if_neg (by assumption)]); (first | rw [if_pos (by assumption)] | rw [if_neg (by assumption)]); simp only [m2]; (first | done | exact m3); done) | (refine PB.t ?_ q3; simp only [mThr, pb, m1]; (first | rw [show opx b g s1.2.1 = acW b s1.2.1 from if_pos (by assumption)] | rw [show opx b g s1.2.1 = opW b s1.2.1 from if_neg (by assumption)]); (first | rw [if_pos (by assumption)] | rw [if_neg (by assumption)]); simp only [m2]; (first | done | exact m3); done)
        · refine w_bok (pv203 _ _) ?_
          refine w_if_eq (t := 75) f206_58 (by decide) (fun e9 => absurd e9 (by decide)) (fun _ => ?_)
          refine w_aloadn f206_61 rfl (by omega) ?_
          refine w_iloadn f206_62 rfl ?_
          refine w_iconst (v := 2) f206_63 (by decide) ?_
          refine w_iaddn f206_64 (by omega) ?_
          refine w_qV f206_65 (Or.inl rfl) rfl (by omega) (okd_of (by assumption)) rfl ⟨Nat.le_of_ble_eq_true rfl, rfl, Nat.le_of_ble_eq_true rfl⟩ (en201 _ _) (s201 q2 (by omega)) (fun o9 ho9 => ?_)
          rcases pb_cases ho9 with ⟨e3, m3, h3, q3, rfl⟩ | ⟨s3, m3, h3, q3, rfl⟩
          · refine w_bok (pv201 _ _) ?_
            refine w_if_eq (t := 75) f206_68 (by decide) (fun _ => ?_) (fun e9 => absurd e9 (by decide))
            refine w_iconst (v := 0) f206_75 (by decide) ?_
            refine w_zret f206_76 rfl (by decide) ?_
            first | (refine PB.f ?_ q1; simp only [mThr, pb, m1]; done) | (refine PB.f ?_ q2; simp only [mThr, pb, m1]; (first | rw [show opx b g s1.2.1 = acW b s1.2.1 from if_pos (by assumption)] | rw [show opx b g s1.2.1 = opW b s1.2.1 from if_neg (by assumption)]); (first | rw [if_pos (by assumption)] | rw [if_neg (by assumption)]); simp only [m2]; (first | done | exact m3); done) | (refine PB.f ?_ q3; simp only [mThr, pb, m1]; (first | rw [show opx b g s1.2.1 = acW b s1.2.1 from if_pos (by assumption)] | rw [show opx b g s1.2.1 = opW b s1.2.1 from if_neg (by assumption)]); (first | rw [if_pos (by assumption)] | rw [if_neg (by assumption)]); simp only [m2]; (first | done | exact m3); done) | (refine PB.t ?_ q3; simp only [mThr, pb, m1]; (first | rw [show opx b g s1.2.1 = acW b s1.2.1 from if_pos (by assumption)] | rw [show opx b g s1.2.1 = opW b s1.2.1 from if_neg (by assumption)]); (first | rw [if_pos (by assumption)] | rw [if_neg (by assumption)]); simp only [m2]; (first | done | exact m3); done)
          · refine w_bok (pv201 _ _) ?_
            refine w_if_eq (t := 75) f206_68 (by decide) (fun e9 => absurd e9 (by decide)) (fun _ => ?_)
            refine w_iconst (v := 1) f206_71 (by decide) ?_
            refine w_goto (t := 76) f206_72 (by decide) ?_
            refine w_zret f206_76 rfl (by decide) ?_
            first | (refine PB.f ?_ q1; simp only [mThr, pb, m1]; done) | (refine PB.f ?_ q2; simp only [mThr, pb, m1]; (first | rw [show opx b g s1.2.1 = acW b s1.2.1 from if_pos (by assumption)] | rw [show opx b g s1.2.1 = opW b s1.2.1 from if_neg (by assumption)]); (first | rw [if_pos (by assumption)] | rw [if_neg (by assumption)]); simp only [m2]; (first | done | exact m3); done) | (refine PB.f ?_ q3; simp only [mThr, pb, m1]; (first | rw [show opx b g s1.2.1 = acW b s1.2.1 from if_pos (by assumption)] | rw [show opx b g s1.2.1 = opW b s1.2.1 from if_neg (by assumption)]); (first | rw [if_pos (by assumption)] | rw [if_neg (by assumption)]); simp only [m2]; (first | done | exact m3); done) | (refine PB.t ?_ q3; simp only [mThr, pb, m1]; (first | rw [show opx b g s1.2.1 = acW b s1.2.1 from if_pos (by assumption)] | rw [show opx b g s1.2.1 = opW b s1.2.1 from if_neg (by assumption)]); (first | rw [if_pos (by assumption)] | rw [if_neg (by assumption)]); simp only [m2]; (first | done | exact m3); done)
end A

/-! the reference reads a script -/
section A
variable {K : List AKd} {h : Nat → Nat → Int} {R : R4} {σ : Sg} {r d : Nat} {w : Nat → Int} {b : Nat → Int} {n : Int}
/-- statements: kinds (1 fire, 2 set, 3 reset, 4 clear), two numbers each, how many -/
abbrev SL : Type := (Nat → Int) × (Nat → Int) × (Nat → Int) × Int
def psh (L : SL) (x a c : Int) : SL := (udI L.1 L.2.2.2.toNat x, udI L.2.1 L.2.2.2.toNat a, udI L.2.2.1 L.2.2.2.toNat c, L.2.2.2 + 1)
def scH (b : Nat → Int) (T : Tk) : Int := if isW b T tx_fire = true then 1 else if isW b T tx_set = true then 2 else if isW b T tx_reset = true then 3 else if isW b T tx_clear = true then 4 else 0
theorem s216 {h0 : Nat → Nat → Int} {s : PS} (hP : PX h0 b n s h) : ev 216 0 [AR 268] [] (KS r d, h, R) = some (.inl (AI (scH b s.2.1)), (KS r d, h, R)) := by
  refine Rn.eq ?_
  have k0 := @kd_268 r d
  refine w_aloadn f216_0 rfl (by omega) ?_
  refine w_ldcw f216_1 ?_
  refine w_cV f216_4 (Or.inl rfl) rfl (by omega) (okd_of (by assumption)) rfl ⟨Nat.le_of_ble_eq_true rfl, rfl, Nat.le_of_ble_eq_true rfl⟩ (en194 _ _) (s194l (t := 48) (l := tx_fire) hP (by decide) rfl) (pv194 _ _) ?_
  refine w_ifb_eq (t := 12) f216_7 (by decide) (fun c1 => ?_) (fun c1 => ?_)
  · refine w_aloadn f216_12 rfl (by omega) ?_
    refine w_ldc f216_13 ?_
    refine w_cV f216_15 (Or.inl rfl) rfl (by omega) (okd_of (by assumption)) rfl ⟨Nat.le_of_ble_eq_true rfl, rfl, Nat.le_of_ble_eq_true rfl⟩ (en194 _ _) (s194l (t := 38) (l := tx_set) hP (by decide) rfl) (pv194 _ _) ?_
    refine w_ifb_eq (t := 23) f216_18 (by decide) (fun c2 => ?_) (fun c2 => ?_)
    · refine w_aloadn f216_23 rfl (by omega) ?_
      refine w_ldcw f216_24 ?_
      refine w_cV f216_27 (Or.inl rfl) rfl (by omega) (okd_of (by assumption)) rfl ⟨Nat.le_of_ble_eq_true rfl, rfl, Nat.le_of_ble_eq_true rfl⟩ (en194 _ _) (s194l (t := 49) (l := tx_reset) hP (by decide) rfl) (pv194 _ _) ?_
      refine w_ifb_eq (t := 35) f216_30 (by decide) (fun c3 => ?_) (fun c3 => ?_)
      · refine w_aloadn f216_35 rfl (by omega) ?_
        refine w_ldcw f216_36 ?_
        refine w_cV f216_39 (Or.inl rfl) rfl (by omega) (okd_of (by assumption)) rfl ⟨Nat.le_of_ble_eq_true rfl, rfl, Nat.le_of_ble_eq_true rfl⟩ (en194 _ _) (s194l (t := 50) (l := tx_clear) hP (by decide) rfl) (pv194 _ _) ?_
        refine w_ifb_eq (t := 49) f216_42 (by decide) (fun c4 => ?_) (fun c4 => ?_)
        · refine w_iconst (v := 0) f216_49 (by decide) ?_
          refine w_iret f216_50 rfl ?_
          simp only [scH, *, if_true, if_false, reduceIte, Bool.false_eq_true]
        · refine w_iconst (v := 4) f216_45 (by decide) ?_
          refine w_goto (t := 50) f216_46 (by decide) ?_
          refine w_iret f216_50 rfl ?_
          simp only [scH, *, if_true, if_false, reduceIte, Bool.false_eq_true]
      · refine w_iconst (v := 3) f216_33 (by decide) ?_
        refine w_iret f216_34 rfl ?_
        simp only [scH, *, if_true, if_false, reduceIte, Bool.false_eq_true]
    · refine w_iconst (v := 2) f216_21 (by decide) ?_
      refine w_iret f216_22 rfl ?_
      simp only [scH, *, if_true, if_false, reduceIte, Bool.false_eq_true]
  · refine w_iconst (v := 1) f216_10 (by decide) ?_
    refine w_iret f216_11 rfl ?_
    simp only [scH, *, if_true, if_false, reduceIte, Bool.false_eq_true]
def mRst (b : Nat → Int) (n : Int) (x : Int) (s : PS) : PM := if x = 1 then mKn b n 0 427 1 s else if x = 2 then pb (mKn b n 0 483 2 s) (fun s => mNum b n 1 s) else .inr s
theorem s217 {h0 : Nat → Nat → Int} {s : PS} {x : Int} (hP : PX h0 b n s h) (hW : WFb s.1) : Rn (ev 217 0 [AR 268, AI x] [] (KS r d, h, R)) (PB r d R h0 b n (mRst b n x (adv b n s))) := by
  have k0 := @kd_268 r d
  obtain ⟨v0, v1, v2, v3, v4⟩ := hW
  refine w_aloadn f217_0 rfl (by omega) ?_
  refine w_qV f217_1 (Or.inl rfl) rfl (by omega) (okd_of (by assumption)) rfl ⟨Nat.le_of_ble_eq_true rfl, rfl, Nat.le_of_ble_eq_true rfl⟩ (en192 _) (hP.adv) (fun o9 ho9 => ?_)
  obtain ⟨h1, q1, rfl⟩ := ho9
  refine w_bok (pv192 _ _) ?_
  refine w_iloadn f217_4 rfl ?_
  rcases (show x = 1 ∨ x = 2 ∨ (x ≠ 1 ∧ x ≠ 2) by omega) with c1 | c1 | c1
  · refine w_look (off := 27) (t := 32) f217_5 rfl (by rw [c1]; first | done | rfl) (by decide) ?_
    refine w_aloadn f217_32 rfl (by omega) ?_
    refine w_iconst (v := 0) f217_33 (by decide) ?_
    refine w_sipush (v := 427) f217_34 (by decide) ?_
    refine w_iconst (v := 1) f217_37 (by decide) ?_
    refine w_qV f217_38 (Or.inl rfl) rfl (by omega) (okd_of (by assumption)) rfl ⟨Nat.le_of_ble_eq_true rfl, rfl, Nat.le_of_ble_eq_true rfl⟩ (en202 _ _ _ _) (s202 (m := 8) q1 (by decide) (Or.inr (Or.inl ⟨rfl, rfl, rfl⟩)) v1) (fun o9 ho9 => ?_)
    rcases pb_cases ho9 with ⟨e2, m2, h2, q2, rfl⟩ | ⟨s2, m2, h2, q2, rfl⟩
    · refine w_bok (pv202 _ _) ?_
      refine w_zret f217_41 rfl (by decide) ?_
      first | (refine PB.f ?_ q2; unfold mRst; rw [if_pos (show x = 1 by omega)]; exact m2) | (refine PB.t ?_ q2; unfold mRst; rw [if_pos (show x = 1 by omega)]; exact m2) | (refine PB.f ?_ q2; unfold mRst; rw [if_neg (by omega), if_pos (show x = 2 by omega), m2]; rfl) | (refine PB.f ?_ q3; unfold mRst; rw [if_neg (by omega), if_pos (show x = 2 by omega), m2]; exact m3) | (refine PB.t ?_ q3; unfold mRst; rw [if_neg (by omega), if_pos (show x = 2 by omega), m2]; exact m3) | (refine PB.t ?_ q1; unfold mRst; rw [if_neg (by omega), if_neg (by omega)])
    · refine w_bok (pv202 _ _) ?_
      refine w_zret f217_41 rfl (by decide) ?_
      first | (refine PB.f ?_ q2; unfold mRst; rw [if_pos (show x = 1 by omega)]; exact m2) | (refine PB.t ?_ q2; unfold mRst; rw [if_pos (show x = 1 by omega)]; exact m2) | (refine PB.f ?_ q2; unfold mRst; rw [if_neg (by omega), if_pos (show x = 2 by omega), m2]; rfl) | (refine PB.f ?_ q3; unfold mRst; rw [if_neg (by omega), if_pos (show x = 2 by omega), m2]; exact m3) | (refine PB.t ?_ q3; unfold mRst; rw [if_neg (by omega), if_pos (show x = 2 by omega), m2]; exact m3) | (refine PB.t ?_ q1; unfold mRst; rw [if_neg (by omega), if_neg (by omega)])
  · refine w_look (off := 37) (t := 42) f217_5 rfl (by rw [c1]; first | done | rfl) (by decide) ?_
    refine w_aloadn f217_42 rfl (by omega) ?_
    refine w_iconst (v := 0) f217_43 (by decide) ?_
    refine w_sipush (v := 483) f217_44 (by decide) ?_
    refine w_iconst (v := 2) f217_47 (by decide) ?_
    refine w_qV f217_48 (Or.inl rfl) rfl (by omega) (okd_of (by assumption)) rfl ⟨Nat.le_of_ble_eq_true rfl, rfl, Nat.le_of_ble_eq_true rfl⟩ (en202 _ _ _ _) (s202 (m := 3) q1 (by decide) (Or.inr (Or.inr ⟨rfl, rfl, rfl⟩)) v2) (fun o9 ho9 => ?_)
    rcases pb_cases ho9 with ⟨e2, m2, h2, q2, rfl⟩ | ⟨s2, m2, h2, q2, rfl⟩
    · refine w_bok (pv202 _ _) ?_
      refine w_if_eq (t := 66) f217_51 (by decide) (fun _ => ?_) (fun e9 => absurd e9 (by decide))
      refine w_iconst (v := 0) f217_66 (by decide) ?_
      refine w_zret f217_67 rfl (by decide) ?_
      first | (refine PB.f ?_ q2; unfold mRst; rw [if_pos (show x = 1 by omega)]; exact m2) | (refine PB.t ?_ q2; unfold mRst; rw [if_pos (show x = 1 by omega)]; exact m2) | (refine PB.f ?_ q2; unfold mRst; rw [if_neg (by omega), if_pos (show x = 2 by omega), m2]; rfl) | (refine PB.f ?_ q3; unfold mRst; rw [if_neg (by omega), if_pos (show x = 2 by omega), m2]; exact m3) | (refine PB.t ?_ q3; unfold mRst; rw [if_neg (by omega), if_pos (show x = 2 by omega), m2]; exact m3) | (refine PB.t ?_ q1; unfold mRst; rw [if_neg (by omega), if_neg (by omega)])
    · refine w_bok (pv202 _ _) ?_
      refine w_if_eq (t := 66) f217_51 (by decide) (fun e9 => absurd e9 (by decide)) (fun _ => ?_)
      refine w_aloadn f217_54 rfl (by omega) ?_
      refine w_iconst (v := 1) f217_55 (by decide) ?_
      refine w_qV f217_56 (Or.inl rfl) rfl (by omega) (okd_of (by assumption)) rfl ⟨Nat.le_of_ble_eq_true rfl, rfl, Nat.le_of_ble_eq_true rfl⟩ (en201 _ _) (s201 q2 (by decide)) (fun o9 ho9 => ?_)
      rcases pb_cases ho9 with ⟨e3, m3, h3, q3, rfl⟩ | ⟨s3, m3, h3, q3, rfl⟩
      · refine w_bok (pv201 _ _) ?_
        refine w_if_eq (t := 66) f217_59 (by decide) (fun _ => ?_) (fun e9 => absurd e9 (by decide))
        refine w_iconst (v := 0) f217_66 (by decide) ?_
        refine w_zret f217_67 rfl (by decide) ?_
        first | (refine PB.f ?_ q2; unfold mRst; rw [if_pos (show x = 1 by omega)]; exact m2) | (refine PB.t ?_ q2; unfold mRst; rw [if_pos (show x = 1 by omega)]; exact m2) | (refine PB.f ?_ q2; unfold mRst; rw [if_neg (by omega), if_pos (show x = 2 by omega), m2]; rfl) | (refine PB.f ?_ q3; unfold mRst; rw [if_neg (by omega), if_pos (show x = 2 by omega), m2]; exact m3) | (refine PB.t ?_ q3; unfold mRst; rw [if_neg (by omega), if_pos (show x = 2 by omega), m2]; exact m3) | (refine PB.t ?_ q1; unfold mRst; rw [if_neg (by omega), if_neg (by omega)])
      · refine w_bok (pv201 _ _) ?_
        refine w_if_eq (t := 66) f217_59 (by decide) (fun e9 => absurd e9 (by decide)) (fun _ => ?_)
        refine w_iconst (v := 1) f217_62 (by decide) ?_
        refine w_goto (t := 67) f217_63 (by decide) ?_
        refine w_zret f217_67 rfl (by decide) ?_
        first | (refine PB.f ?_ q2; unfold mRst; rw [if_pos (show x = 1 by omega)]; exact m2) | (refine PB.t ?_ q2; unfold mRst; rw [if_pos (show x = 1 by omega)]; exact m2) | (refine PB.f ?_ q2; unfold mRst; rw [if_neg (by omega), if_pos (show x = 2 by omega), m2]; rfl) | (refine PB.f ?_ q3; unfold mRst; rw [if_neg (by omega), if_pos (show x = 2 by omega), m2]; exact m3) | (refine PB.t ?_ q3; unfold mRst; rw [if_neg (by omega), if_pos (show x = 2 by omega), m2]; exact m3) | (refine PB.t ?_ q1; unfold mRst; rw [if_neg (by omega), if_neg (by omega)])
  · refine w_look (off := 63) (t := 68) f217_5 rfl (by simp [Op.lookupswitch.offset, Ne.symm c1.1, Ne.symm c1.2]) (by decide) ?_
    refine w_iconst (v := 1) f217_68 (by decide) ?_
    refine w_zret f217_69 rfl (by decide) ?_
    first | (refine PB.f ?_ q2; unfold mRst; rw [if_pos (show x = 1 by omega)]; exact m2) | (refine PB.t ?_ q2; unfold mRst; rw [if_pos (show x = 1 by omega)]; exact m2) | (refine PB.f ?_ q2; unfold mRst; rw [if_neg (by omega), if_pos (show x = 2 by omega), m2]; rfl) | (refine PB.f ?_ q3; unfold mRst; rw [if_neg (by omega), if_pos (show x = 2 by omega), m2]; exact m3) | (refine PB.t ?_ q3; unfold mRst; rw [if_neg (by omega), if_pos (show x = 2 by omega), m2]; exact m3) | (refine PB.t ?_ q1; unfold mRst; rw [if_neg (by omega), if_neg (by omega)])
/-- the statements that were read lie in the rows -/
def SLr (L : SL) (h : Nat → Nat → Int) : Prop := h 268 26 = L.2.2.2 ∧ ∀ k : Nat, (k : Int) < L.2.2.2 → h 277 k = L.1 k ∧ h 278 (2 * k) = L.2.1 k ∧ h 278 (2 * k + 1) = L.2.2.1 k
/-- frame of a script's reading -/
def FrS (h0 h : Nat → Nat → Int) : Prop := ∀ x y, x ≠ 276 → x ≠ 277 → x ≠ 278 → ¬ (x = 268 ∧ ((16 ≤ y ∧ y ≤ 22) ∨ y = 26)) → h x y = h0 x y
theorem PX.re {h0 : Nat → Nat → Int} {s : PS} (hP : PX h0 b n s h) : PX h b n s h := ⟨hP.1, hP.2.1, hP.2.2.1, hP.2.2.2.1, hP.2.2.2.2.1, fun _ _ _ _ _ => rfl⟩
abbrev PM2 : Type := Sum (Int × Int) (PS × SL)
def PS2 (h0 : Nat → Nat → Int) (b : Nat → Int) (n : Int) (s : PS) (L : SL) (h : Nat → Nat → Int) : Prop := PX h b n s h ∧ SLr L h ∧ FrS h0 h
def PB2 (r d : Nat) (R : R4) (h0 : Nat → Nat → Int) (b : Nat → Int) (n : Int) (m : PM2) : Out → Prop := fun o => match m with
  | .inl e => ∃ h1, (h1 268 16 = e.1 ∧ h1 268 17 = e.2 ∧ FrS h0 h1) ∧ o = (.inl (AI 0), (KS r d, h1, R))
  | .inr s => ∃ h1, PS2 h0 b n s.1 s.2 h1 ∧ o = (.inl (AI 1), (KS r d, h1, R))
def mSS (b : Nat → Int) (n : Int) (s : PS) (L : SL) : PM2 := if scH b s.2.1 = 0 then .inl (1, s.2.1.1) else if L.2.2.2 = 30 then .inl (5, s.2.1.1) else
  match mRst b n (scH b s.2.1) (adv b n s) with
  | .inl e => .inl (e.1, e.2.1)
  | .inr s1 => match mSem b n s1 with
    | .inl e => .inl (e.1, e.2.1)
    | .inr s2 => .inr (s2, psh L (scH b s.2.1) (s1.2.2 0) (s1.2.2 1))
theorem FrS.of {h0 h1 : Nat → Nat → Int} (q : FrS h0 h) (hw : h1 269 = h 269) (f : Fr h h1) : FrS h0 h1 := fun x y n1 n2 n3 n4 => by
  by_cases e : x = 269
  · subst e
    rw [congrFun hw y]
    exact q 269 y n1 n2 n3 n4
  · rw [f x y e n1 (fun z => n4 ⟨z.1, Or.inl z.2⟩)]
    exact q x y n1 n2 n3 n4
theorem SLr.of {L : SL} {h1 : Nat → Nat → Int} (q : SLr L h) (f : Fr h h1) : SLr L h1 := ⟨(f 268 26 (by decide) (by decide) (by omega)).trans q.1, fun k hk => ⟨(f 277 k (by decide) (by decide) (by omega)).trans (q.2 k hk).1, (f 278 (2 * k) (by decide) (by decide) (by omega)).trans (q.2 k hk).2.1, (f 278 (2 * k + 1) (by decide) (by decide) (by omega)).trans (q.2 k hk).2.2⟩⟩
end A

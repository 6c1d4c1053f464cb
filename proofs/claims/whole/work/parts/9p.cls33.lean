/-! the class's reading: a script -/
section A
variable {K : List AKd} {h : Nat → Nat → Int} {R : R4} {σ : Sg} {r d : Nat} {w : Nat → Int} {b : Nat → Int} {n : Int}
/-- the script in the class -/
def SLc (h : Nat → Nat → Int) (L : SL) : Prop := h 4 0 = L.2.2.2 ∧ ∀ k : Nat, (k : Int) < L.2.2.2 → (h 5 k = L.1 k - 1 ∧ 1 ≤ L.1 k ∧ L.1 k ≤ 4) ∧ (L.1 k ≤ 2 → h 6 k = L.2.1 k) ∧ (L.1 k = 2 → h 7 k = L.2.2.1 k)
theorem SLc.fr {L : SL} {h1 : Nat → Nat → Int} (q : SLc h L) (e : ∀ x y, 4 ≤ x → x ≤ 7 → h1 x y = h x y) : SLc h1 L :=
  ⟨(e _ _ (by decide) (by decide)).trans q.1, fun k hk => ⟨⟨(e _ _ (by decide) (by decide)).trans (q.2 k hk).1.1, (q.2 k hk).1.2⟩, fun z => (e _ _ (by decide) (by decide)).trans ((q.2 k hk).2.1 z), fun z => (e _ _ (by decide) (by decide)).trans ((q.2 k hk).2.2 z)⟩⟩
def pshC (h : Nat → Nat → Int) (p x a c : Int) : Nat → Nat → Int := hput (hput (hput (hput h 5 p.toNat x) 6 p.toNat a) 7 p.toNat c) 4 0 (p + 1)
theorem pshC_o {p x a c : Int} {u y : Nat} (hu : u < 4 ∨ 7 < u) : pshC h p x a c u y = h u y := (hput_k (by omega)).trans ((hput_k (by omega)).trans ((hput_k (by omega)).trans (hput_k (by omega))))
theorem SLc.push {L : SL} {x a c v a1 c1 : Int} (q : SLc h L) (h0 : 0 ≤ L.2.2.2) (hx : v = x - 1) (hx2 : 1 ≤ x ∧ x ≤ 4) (ha : x ≤ 2 → a1 = a) (hc : x = 2 → c1 = c) : SLc (pshC h L.2.2.2 v a1 c1) (psh L x a c) := by
  refine ⟨hput_s, fun k hk => ?_⟩
  have hk : (k : Int) < L.2.2.2 + 1 := hk
  show ((pshC h L.2.2.2 v a1 c1 5 k = udI L.1 L.2.2.2.toNat x k - 1 ∧ 1 ≤ udI L.1 L.2.2.2.toNat x k ∧ udI L.1 L.2.2.2.toNat x k ≤ 4) ∧ (udI L.1 L.2.2.2.toNat x k ≤ 2 → pshC h L.2.2.2 v a1 c1 6 k = udI L.2.1 L.2.2.2.toNat a k) ∧ (udI L.1 L.2.2.2.toNat x k = 2 → pshC h L.2.2.2 v a1 c1 7 k = udI L.2.2.1 L.2.2.2.toNat c k))
  unfold udI pshC
  by_cases z : k = L.2.2.2.toNat
  · rw [if_pos z, if_pos z, if_pos z, z]
    refine ⟨⟨?_, hx2⟩, fun y => ?_, fun y => ?_⟩
    · rw [← hx]; (repeat (first | refine Eq.trans hput_s ?_ | refine Eq.trans (hput_k (by omega)) ?_ | refine Eq.trans (hput_j (by first | decide | omega)) ?_ | refine Eq.trans (fiH_in (by omega)) ?_ | refine Eq.trans (fiH_k (by omega)) ?_ | refine Eq.trans (hcp_s (by omega)) ?_ | refine Eq.trans (hcp_k (by omega)) ?_)); rfl
    · rw [← ha y]; (repeat (first | refine Eq.trans hput_s ?_ | refine Eq.trans (hput_k (by omega)) ?_ | refine Eq.trans (hput_j (by first | decide | omega)) ?_ | refine Eq.trans (fiH_in (by omega)) ?_ | refine Eq.trans (fiH_k (by omega)) ?_ | refine Eq.trans (hcp_s (by omega)) ?_ | refine Eq.trans (hcp_k (by omega)) ?_)); rfl
    · rw [← hc y]; (repeat (first | refine Eq.trans hput_s ?_ | refine Eq.trans (hput_k (by omega)) ?_ | refine Eq.trans (hput_j (by first | decide | omega)) ?_ | refine Eq.trans (fiH_in (by omega)) ?_ | refine Eq.trans (fiH_k (by omega)) ?_ | refine Eq.trans (hcp_s (by omega)) ?_ | refine Eq.trans (hcp_k (by omega)) ?_)); rfl
  · rw [if_neg z, if_neg z, if_neg z]
    obtain ⟨⟨q1, q2⟩, q3, q4⟩ := q.2 k (by omega)
    refine ⟨⟨?_, q2⟩, fun y => ?_, fun y => ?_⟩
    · (repeat (first | refine Eq.trans hput_s ?_ | refine Eq.trans (hput_k (by omega)) ?_ | refine Eq.trans (hput_j (by first | decide | omega)) ?_ | refine Eq.trans (fiH_in (by omega)) ?_ | refine Eq.trans (fiH_k (by omega)) ?_ | refine Eq.trans (hcp_s (by omega)) ?_ | refine Eq.trans (hcp_k (by omega)) ?_)); exact q1
    · (repeat (first | refine Eq.trans hput_s ?_ | refine Eq.trans (hput_k (by omega)) ?_ | refine Eq.trans (hput_j (by first | decide | omega)) ?_ | refine Eq.trans (fiH_in (by omega)) ?_ | refine Eq.trans (fiH_k (by omega)) ?_ | refine Eq.trans (hcp_s (by omega)) ?_ | refine Eq.trans (hcp_k (by omega)) ?_)); exact q3 y
    · (repeat (first | refine Eq.trans hput_s ?_ | refine Eq.trans (hput_k (by omega)) ?_ | refine Eq.trans (hput_j (by first | decide | omega)) ?_ | refine Eq.trans (fiH_in (by omega)) ?_ | refine Eq.trans (fiH_k (by omega)) ?_ | refine Eq.trans (hcp_s (by omega)) ?_ | refine Eq.trans (hcp_k (by omega)) ?_)); exact q4 y
theorem s58 {p x a c : Int} (e : h 4 0 = p) (hp : 0 ≤ p ∧ p < 30) : ev 58 0 [AR 4, AI x, AI a, AI c] [] (KS r d, h, R) = some (.inl AU, (KS r d, pshC h p x a c, R)) := by
  refine Rn.eq ?_
  have k1 := @kd_4 r d
  have k2 := @kd_5 r d
  have k3 := @kd_6 r d
  have k4 := @kd_7 r d
  refine w_aloadn f58_0 rfl (by omega) ?_
  refine w_getI f58_1 (by decide) (by assumption) (by exact e) ?_
  refine w_bipush (v := 30) f58_4 (by decide) ?_
  refine w_ic_ge (t := 49) f58_6 (by decide) (fun c1 => by omega) (fun c1 => ?_)
  refine w_aloadn f58_9 rfl (by omega) ?_
  refine w_getR f58_10 (by assumption) rfl (by omega) ?_
  refine w_aloadn f58_13 rfl (by omega) ?_
  refine w_getI f58_14 (by decide) (by assumption) (by exact e) ?_
  refine w_iloadn f58_17 rfl ?_
  refine w_iast f58_18 (by assumption) (by omega) ?_
  refine w_aloadn f58_19 rfl (by omega) ?_
  refine w_getR f58_20 (by assumption) rfl (by omega) ?_
  refine w_aloadn f58_23 rfl (by omega) ?_
  refine w_getI f58_24 (by decide) (by assumption) (by exact (hput_k (by omega)).trans e) ?_
  refine w_iloadn f58_27 rfl ?_
  refine w_iast f58_28 (by assumption) (by omega) ?_
  refine w_aloadn f58_29 rfl (by omega) ?_
  refine w_getR f58_30 (by assumption) rfl (by omega) ?_
  refine w_aloadn f58_33 rfl (by omega) ?_
  refine w_getI f58_34 (by decide) (by assumption) (by exact (hput_k (by omega)).trans ((hput_k (by omega)).trans e)) ?_
  refine w_iloadn f58_37 rfl ?_
  refine w_iast f58_38 (by assumption) (by omega) ?_
  refine w_aloadn f58_39 rfl (by omega) ?_
  refine w_dup f58_40 rfl ?_
  refine w_getI f58_41 (by decide) (by assumption) (by exact (hput_k (by omega)).trans ((hput_k (by omega)).trans ((hput_k (by omega)).trans e))) ?_
  refine w_iconst (v := 1) f58_44 (by decide) ?_
  refine w_iaddn f58_45 (by omega) ?_
  refine w_putI f58_46 (by assumption) ?_
  refine w_ret f58_49 rfl ?_
  rfl
theorem s58f {p x a c : Int} (e : h 4 0 = p) (hp : 30 ≤ p) : ev 58 0 [AR 4, AI x, AI a, AI c] [] (KS r d, h, R) = some (.inl AU, (KS r d, h, R)) := by
  refine Rn.eq ?_
  have k1 := @kd_4 r d
  refine w_aloadn f58_0 rfl (by omega) ?_
  refine w_getI f58_1 (by decide) (by assumption) (by (try simp only [hput, hcopy, Nat.reduceEqDiff, Nat.add_left_cancel_iff, Nat.add_right_cancel_iff, Nat.left_eq_add, Nat.add_eq_left, Nat.right_eq_add, Nat.add_eq_right, Nat.reduceAdd, Nat.add_zero, Nat.succ_ne_self, Nat.one_ne_zero, Nat.zero_ne_one, eq_self, and_self, and_true, true_and, and_false, false_and, if_true, if_false, reduceIte, Int.reduceToNat, Int.toNat_natCast, e]); exact rfl) ?_
  refine w_bipush (v := 30) f58_4 (by decide) ?_
  refine w_ic_ge (t := 49) f58_6 (by decide) (fun c1 => ?_) (fun c1 => by omega)
  refine w_ret f58_49 rfl ?_
  rfl
/-- only the text's object and the script have changed -/
def FsO (h h1 : Nat → Nat → Int) : Prop := ∀ x y, ¬ (x = 2 ∧ 2 ≤ y ∧ y ≤ 7) → (x < 4 ∨ 7 < x) → h1 x y = h x y
theorem FsO.tr {h1 h2 : Nat → Nat → Int} (p : FsO h h1) (q : FsO h1 h2) : FsO h h2 := fun x y z z2 => (q x y z z2).trans (p x y z z2)
theorem TxO.s {h1 : Nat → Nat → Int} (p : TxO h h1) : FsO h h1 := fun x y z _ => p x y z
theorem FsO.psh {p x a c : Int} {h1 : Nat → Nat → Int} (q : FsO h h1) : FsO h (pshC h1 p x a c) := fun u y z z2 => (pshC_o z2).trans (q u y z z2)
def ScQ (r d : Nat) (R : R4) (h : Nat → Nat → Int) (b : Nat → Int) (n : Int) (m : PM2) : Out → Prop := fun o =>
  (∃ s L h1, (m = .inr (s, L) ∧ GT h1 b n s.2.1 ∧ SLc h1 L ∧ FsO h h1) ∧ o = (.inl AU, (KS r d, h1, R))) ∨ ∃ (e : Int × Int) (h1 : Nat → Nat → Int), (m = .inl e ∧ FT h1 b n (e.1, e.2, fun _ => 0) ∧ FsO h h1) ∧ o = (.inl AU, (KS r d, h1, R))
def mS2 (b : Nat → Int) (n : Int) (m : PM) (L : PS → SL) : PM2 := match m with
  | .inl e => .inl (e.1, e.2.1)
  | .inr s1 => match mSem b n s1 with
    | .inl e => .inl (e.1, e.2.1)
    | .inr s2 => .inr (s2, L s1)
theorem mSS_u {s : PS} {L : SL} (h1 : scH b s.2.1 ≠ 0) (h2 : L.2.2.2 ≠ 30) : mSS b n s L = mS2 b n (mRst b n (scH b s.2.1) (adv b n s)) (fun s1 => psh L (scH b s.2.1) (s1.2.2 0) (s1.2.2 1)) := by
  unfold mSS
  rw [if_neg h1, if_neg h2]
  rfl
theorem l57g {h0 : Nat → Nat → Int} {l : Nat} {v3 v4 : AV} {s1 : PS} {L : SL} {m : PM2} (q : GT h b n s1.2.1) (hL : SLc h L) (hF : FsO h0 h) (hm : m = mS2 b n (.inr s1) (fun _ => L)) : Rn (ev 57 137 [AR 4, AR 2, AR l, v3, v4] [] (KS r d, h, R)) (ScQ r d R h0 b n m) := by
  have k2 := @kd_2 r d
  rw [hm]
  unfold mS2
  refine w_aloadn f57_137 rfl (by omega) ?_
  refine w_qV f57_138 (Or.inl rfl) rfl (by omega) (okd_of (by assumption)) rfl ⟨Nat.le_of_ble_eq_true rfl, rfl, Nat.le_of_ble_eq_true rfl⟩ (en30 _) (m30 q) (fun o9 ho9 => ?_)
  rcases ho9 with ⟨s2, h1, ⟨a1, a2, a3⟩, rfl⟩ | ⟨e, h1, ⟨a1, a2, a3⟩, rfl⟩
  rotate_left
  · refine w_bok (pv30 _ _) ?_
    refine w_ret f57_141 rfl ?_
    exact Or.inr ⟨(e.1, e.2.1), h1, ⟨by simp only [a1], a2, hF.tr a3.s⟩, rfl⟩
  refine w_bok (pv30 _ _) ?_
  refine w_ret f57_141 rfl ?_
  exact Or.inl ⟨s2, L, h1, ⟨by simp only [a1], a2, hL.fr (fun x y x1 x2 => a3 x y (by omega)), hF.tr a3.s⟩, rfl⟩
theorem l57f {h0 : Nat → Nat → Int} {l : Nat} {v3 v4 : AV} {e : Int × Int × (Nat → Int)} {m : PM2} (q : FT h b n e) (hF : FsO h0 h) (hm : m = .inl (e.1, e.2.1)) : Rn (ev 57 137 [AR 4, AR 2, AR l, v3, v4] [] (KS r d, h, R)) (ScQ r d R h0 b n m) := by
  have k2 := @kd_2 r d
  refine w_aloadn f57_137 rfl (by omega) ?_
  refine w_cV f57_138 (Or.inl rfl) rfl (by omega) (okd_of (by assumption)) rfl ⟨Nat.le_of_ble_eq_true rfl, rfl, Nat.le_of_ble_eq_true rfl⟩ (en30 _) (x30 q (fun x y z => rfl)) (pv30 _ _) ?_
  refine w_ret f57_141 rfl ?_
  exact Or.inr ⟨(e.1, e.2.1), h, ⟨hm, q, hF⟩, rfl⟩
theorem l57f39 {h0 : Nat → Nat → Int} {l : Nat} {x p : Int} {v4 : AV} {e : Int × Int × (Nat → Int)} {m : PM2} (hp : h 4 0 = p) (hp0 : 0 ≤ p ∧ p < 30) (q : FT h b n e) (hF : FsO h0 h) (hm : m = .inl (e.1, e.2.1)) : Rn (ev 57 39 [AR 4, AR 2, AR l, AI 1, v4] [AI x, AI 0, AR 4] (KS r d, h, R)) (ScQ r d R h0 b n m) := by
  have k1 := @kd_4 r d
  refine w_iconst (v := 0) f57_39 (by decide) ?_
  refine w_cV f57_40 (Or.inl rfl) rfl (by omega) (okd_of (by assumption)) rfl ⟨Nat.le_of_ble_eq_true rfl, rfl, Nat.le_of_ble_eq_true rfl⟩ (en58 _ _ _ _) (s58 hp hp0) (pv58 _ _) ?_
  refine w_goto (t := 137) f57_43 (by decide) ?_
  exact l57f (q.fr (fun x y z => pshC_o (by omega))) hF.psh hm
theorem l57f78 {h0 : Nat → Nat → Int} {l : Nat} {x y p : Int} {v4 : AV} {e : Int × Int × (Nat → Int)} {m : PM2} (hp : h 4 0 = p) (hp0 : 0 ≤ p ∧ p < 30) (q : FT h b n e) (hF : FsO h0 h) (hm : m = .inl (e.1, e.2.1)) : Rn (ev 57 78 [AR 4, AR 2, AR l, AI 1, v4] [AI x, AI y, AI 1, AR 4] (KS r d, h, R)) (ScQ r d R h0 b n m) := by
  have k1 := @kd_4 r d
  refine w_cV f57_78 (Or.inl rfl) rfl (by omega) (okd_of (by assumption)) rfl ⟨Nat.le_of_ble_eq_true rfl, rfl, Nat.le_of_ble_eq_true rfl⟩ (en58 _ _ _ _) (s58 hp hp0) (pv58 _ _) ?_
  refine w_goto (t := 137) f57_81 (by decide) ?_
  exact l57f (q.fr (fun x y z => pshC_o (by omega))) hF.psh hm
theorem l57f68 {h0 : Nat → Nat → Int} {l : Nat} {x p : Int} {v4 : AV} {e : Int × Int × (Nat → Int)} {m : PM2} (hp : h 4 0 = p) (hp0 : 0 ≤ p ∧ p < 30) (q : FT h b n e) (hF : FsO h0 h) (hm : m = .inl (e.1, e.2.1)) : Rn (ev 57 68 [AR 4, AR 2, AR l, AI 1, v4] [AI x] (KS r d, h, R)) (ScQ r d R h0 b n m) := by
  have k1 := @kd_4 r d
  have k2 := @kd_2 r d
  refine w_istore f57_68 (Nat.le_of_ble_eq_true rfl) (sto_5_4 rfl) ?_
  refine w_aloadn f57_70 rfl (by omega) ?_
  refine w_iconst (v := 1) f57_71 (by decide) ?_
  refine w_iload f57_72 rfl ?_
  refine w_aloadn f57_74 rfl (by omega) ?_
  refine w_cV f57_75 (Or.inl rfl) rfl (by omega) (okd_of (by assumption)) rfl ⟨Nat.le_of_ble_eq_true rfl, rfl, Nat.le_of_ble_eq_true rfl⟩ (en34 _) (x34 q (fun x y z => rfl)) (pv34 _ _) ?_
  exact l57f78 hp hp0 q hF hm

theorem l57fire {l : Nat} {s : PS} {L : SL} (hl : ShRl (KS r d) l) (l0 : 7 < l) (hW : WFm s.1) (hR : CRl h l s.1) (q : GT h b n s.2.1) (hL : SLc h L) (h30 : 0 ≤ L.2.2.2 ∧ L.2.2.2 ≤ 30) (z : isW b s.2.1 tx_fire = true) : Rn (ev 57 0 [AR 4, AR 2, AR l, AU, AU] [] (KS r d, h, R)) (ScQ r d R h b n (mSS b n s L)) := by
  have k1 := @kd_4 r d
  have k2 := @kd_2 r d
  obtain ⟨l1, n1, n2, n3, -⟩ := hl
  have n21 := n2.1
  have n31 := n3.1
  obtain ⟨v0, v1, v2, v3, v4⟩ := hW.1
  have p0 : h 4 0 = L.2.2.2 := hL.1
  have es : scH b s.2.1 = 1 := by unfold scH; rw [if_pos z]
  by_cases hf : L.2.2.2 = 30
  · have em : mSS b n s L = .inl (5, s.2.1.1) := by unfold mSS; rw [if_neg (by omega), if_pos hf]
    rw [em]
    refine w_aloadn f57_0 rfl (by omega) ?_
    refine w_getI f57_1 (by decide) (by assumption) (by (try simp only [hput, hcopy, Nat.reduceEqDiff, Nat.add_left_cancel_iff, Nat.add_right_cancel_iff, Nat.left_eq_add, Nat.add_eq_left, Nat.right_eq_add, Nat.add_eq_right, Nat.reduceAdd, Nat.add_zero, Nat.succ_ne_self, Nat.one_ne_zero, Nat.zero_ne_one, eq_self, and_self, and_true, true_and, and_false, false_and, if_true, if_false, reduceIte, Int.reduceToNat, Int.toNat_natCast, p0]); exact rfl) ?_
    refine w_bipush (v := 30) f57_4 (by decide) ?_
    refine w_ic_ge (t := 13) f57_6 (by decide) (fun c1 => ?_) (fun c1 => by omega)
    refine w_iconst (v := 0) f57_13 (by decide) ?_
    refine w_istoren f57_14 (Nat.le_of_ble_eq_true rfl) (sto_5_3 rfl) ?_
    refine w_aloadn f57_15 rfl (by omega) ?_
    refine w_ldc f57_16 ?_
    refine w_cV f57_18 (Or.inl rfl) rfl (by omega) (okd_of (by assumption)) rfl ⟨Nat.le_of_ble_eq_true rfl, rfl, Nat.le_of_ble_eq_true rfl⟩ (en26 _ _) (s26t (t := 18) (l := tx_fire) (by decide) rfl q z) (pv26 _ _) ?_
    refine w_if_eq (t := 46) f57_21 (by decide) (fun c2 => by omega) (fun c2 => ?_)
    refine w_aloadn f57_24 rfl (by omega) ?_
    refine w_iloadn f57_25 rfl ?_
    refine w_qV f57_26 (Or.inl rfl) rfl (by omega) (okd_of (by assumption)) rfl ⟨Nat.le_of_ble_eq_true rfl, rfl, Nat.le_of_ble_eq_true rfl⟩ (en29 _ _) (m29f q) (fun o9 ho9 => ?_)
    obtain ⟨h1, ⟨p1, p2⟩, rfl⟩ := ho9
    refine w_bok (pv29 _ _) ?_
    refine w_aloadn f57_29 rfl (by omega) ?_
    refine w_iconst (v := 0) f57_30 (by decide) ?_
    refine w_aloadn f57_31 rfl (by omega) ?_
    refine w_aloadn f57_32 rfl (by omega) ?_
    refine w_getR f57_33 (by assumption) rfl (by omega) ?_
    refine w_cV f57_36 (Or.inl rfl) rfl (by omega) (okd_of (by assumption)) rfl ⟨Nat.le_of_ble_eq_true rfl, rfl, Nat.le_of_ble_eq_true rfl⟩ (en33 _ _) (x33 p1 (fun x y z => rfl)) (pv33 _ _) ?_
    refine w_iconst (v := 0) f57_39 (by decide) ?_
    refine w_cV f57_40 (Or.inl rfl) rfl (by omega) (okd_of (by assumption)) rfl ⟨Nat.le_of_ble_eq_true rfl, rfl, Nat.le_of_ble_eq_true rfl⟩ (en58 _ _ _ _) (s58f (p := L.2.2.2) ((p2 _ _ (by omega)).trans p0) (by omega)) (pv58 _ _) ?_
    refine w_goto (t := 137) f57_43 (by decide) ?_
    exact l57f p1 p2.s rfl
  · rw [mSS_u (by omega) hf, es]
    rw [show mRst b n 1 (adv b n s) = mKn b n 0 427 1 (adv b n s) from if_pos rfl]
    refine w_aloadn f57_0 rfl (by omega) ?_
    refine w_getI f57_1 (by decide) (by assumption) (by (try simp only [hput, hcopy, Nat.reduceEqDiff, Nat.add_left_cancel_iff, Nat.add_right_cancel_iff, Nat.left_eq_add, Nat.add_eq_left, Nat.right_eq_add, Nat.add_eq_right, Nat.reduceAdd, Nat.add_zero, Nat.succ_ne_self, Nat.one_ne_zero, Nat.zero_ne_one, eq_self, and_self, and_true, true_and, and_false, false_and, if_true, if_false, reduceIte, Int.reduceToNat, Int.toNat_natCast, p0]); exact rfl) ?_
    refine w_bipush (v := 30) f57_4 (by decide) ?_
    refine w_ic_ge (t := 13) f57_6 (by decide) (fun c1 => by omega) (fun c1 => ?_)
    refine w_iconst (v := 1) f57_9 (by decide) ?_
    refine w_goto (t := 14) f57_10 (by decide) ?_
    refine w_istoren f57_14 (Nat.le_of_ble_eq_true rfl) (sto_5_3 rfl) ?_
    refine w_aloadn f57_15 rfl (by omega) ?_
    refine w_ldc f57_16 ?_
    refine w_cV f57_18 (Or.inl rfl) rfl (by omega) (okd_of (by assumption)) rfl ⟨Nat.le_of_ble_eq_true rfl, rfl, Nat.le_of_ble_eq_true rfl⟩ (en26 _ _) (s26t (t := 18) (l := tx_fire) (by decide) rfl q z) (pv26 _ _) ?_
    refine w_if_eq (t := 46) f57_21 (by decide) (fun c2 => by omega) (fun c2 => ?_)
    refine w_aloadn f57_24 rfl (by omega) ?_
    refine w_iloadn f57_25 rfl ?_
    refine w_qV f57_26 (Or.inl rfl) rfl (by omega) (okd_of (by assumption)) rfl ⟨Nat.le_of_ble_eq_true rfl, rfl, Nat.le_of_ble_eq_true rfl⟩ (en29 _ _) (m29t (s := s) q (by decide)) (fun o9 ho9 => ?_)
    obtain ⟨h1, ⟨p1, p2⟩, rfl⟩ := ho9
    have R1 := hR.fr (h1 := h1) hW.1 (fun x y z1 z2 => p2 x y (by omega))
    refine w_bok (pv29 _ _) ?_
    refine w_aloadn f57_29 rfl (by omega) ?_
    refine w_iconst (v := 0) f57_30 (by decide) ?_
    refine w_aloadn f57_31 rfl (by omega) ?_
    refine w_aloadn f57_32 rfl (by omega) ?_
    refine w_getR f57_33 (by assumption) rfl (by omega) ?_
    refine w_qV f57_36 (Or.inl rfl) rfl (by omega) (okd_of (by assumption)) rfl ⟨Nat.le_of_ble_eq_true rfl, rfl, Nat.le_of_ble_eq_true rfl⟩ (en33 _ _) (m33 (j := 0) (s := adv b n s) n2 (by omega) R1.1.2.1 ⟨v1.1, Int.le_trans v1.2 (by decide)⟩ p1) (fun o9 ho9 => ?_)
    rcases ho9 with ⟨s1, h2, ⟨b1, b2, b3⟩, rfl⟩ | ⟨e, h2, ⟨b1, b2, b3⟩, rfl⟩
    rotate_left
    · refine w_bok (pv33 _ _) ?_
      exact l57f39 (p := L.2.2.2) ((b3 _ _ (by omega)).trans ((p2 _ _ (by omega)).trans p0)) ⟨h30.1, by omega⟩ b2 (p2.tr b3).s (by rw [b1]; rfl)
    refine w_bok (pv33 _ _) ?_
    refine w_iconst (v := 0) f57_39 (by decide) ?_
    refine w_cV f57_40 (Or.inl rfl) rfl (by omega) (okd_of (by assumption)) rfl ⟨Nat.le_of_ble_eq_true rfl, rfl, Nat.le_of_ble_eq_true rfl⟩ (en58 _ _ _ _) (s58 (p := L.2.2.2) ((b3 _ _ (by omega)).trans ((p2 _ _ (by omega)).trans p0)) ⟨h30.1, by omega⟩) (pv58 _ _) ?_
    refine w_goto (t := 137) f57_43 (by decide) ?_
    have tt := p2.tr b3
    rw [b1]
    exact l57g (s1 := s1) (b2.fr (fun x y z => pshC_o (by omega))) ((hL.fr (fun x y x1 x2 => tt x y (by omega))).push h30.1 (by decide) (by decide) (fun _ => rfl) (fun z => absurd z (show ¬ (1 : Int) = 2 by decide))) tt.s.psh rfl
theorem l57set {l : Nat} {s : PS} {L : SL} (hl : ShRl (KS r d) l) (l0 : 7 < l) (hW : WFm s.1) (hR : CRl h l s.1) (q : GT h b n s.2.1) (hL : SLc h L) (h30 : 0 ≤ L.2.2.2 ∧ L.2.2.2 ≤ 30) (z0 : ¬ isW b s.2.1 tx_fire = true) (z : isW b s.2.1 tx_set = true) : Rn (ev 57 0 [AR 4, AR 2, AR l, AU, AU] [] (KS r d, h, R)) (ScQ r d R h b n (mSS b n s L)) := by
  have k1 := @kd_4 r d
  have k2 := @kd_2 r d
  obtain ⟨l1, n1, n2, n3, -⟩ := hl
  have n21 := n2.1
  have n31 := n3.1
  obtain ⟨v0, v1, v2, v3, v4⟩ := hW.1
  have p0 : h 4 0 = L.2.2.2 := hL.1
  have es : scH b s.2.1 = 2 := by unfold scH; rw [if_neg z0, if_pos z]
  by_cases hf : L.2.2.2 = 30
  · have em : mSS b n s L = .inl (5, s.2.1.1) := by unfold mSS; rw [if_neg (by omega), if_pos hf]
    rw [em]
    refine w_aloadn f57_0 rfl (by omega) ?_
    refine w_getI f57_1 (by decide) (by assumption) (by (try simp only [hput, hcopy, Nat.reduceEqDiff, Nat.add_left_cancel_iff, Nat.add_right_cancel_iff, Nat.left_eq_add, Nat.add_eq_left, Nat.right_eq_add, Nat.add_eq_right, Nat.reduceAdd, Nat.add_zero, Nat.succ_ne_self, Nat.one_ne_zero, Nat.zero_ne_one, eq_self, and_self, and_true, true_and, and_false, false_and, if_true, if_false, reduceIte, Int.reduceToNat, Int.toNat_natCast, p0]); exact rfl) ?_
    refine w_bipush (v := 30) f57_4 (by decide) ?_
    refine w_ic_ge (t := 13) f57_6 (by decide) (fun c1 => ?_) (fun c1 => by omega)
    refine w_iconst (v := 0) f57_13 (by decide) ?_
    refine w_istoren f57_14 (Nat.le_of_ble_eq_true rfl) (sto_5_3 rfl) ?_
    refine w_aloadn f57_15 rfl (by omega) ?_
    refine w_ldc f57_16 ?_
    refine w_cV f57_18 (Or.inl rfl) rfl (by omega) (okd_of (by assumption)) rfl ⟨Nat.le_of_ble_eq_true rfl, rfl, Nat.le_of_ble_eq_true rfl⟩ (en26 _ _) (s26n (t := 18) (l := tx_fire) (by decide) rfl q z0) (pv26 _ _) ?_
    refine w_if_eq (t := 46) f57_21 (by decide) (fun c2 => ?_) (fun c2 => by omega)
    refine w_aloadn f57_46 rfl (by omega) ?_
    refine w_ldc f57_47 ?_
    refine w_cV f57_49 (Or.inl rfl) rfl (by omega) (okd_of (by assumption)) rfl ⟨Nat.le_of_ble_eq_true rfl, rfl, Nat.le_of_ble_eq_true rfl⟩ (en26 _ _) (s26t (t := 19) (l := tx_set) (by decide) rfl q z) (pv26 _ _) ?_
    refine w_if_eq (t := 84) f57_52 (by decide) (fun c3 => by omega) (fun c3 => ?_)
    refine w_aloadn f57_55 rfl (by omega) ?_
    refine w_iloadn f57_56 rfl ?_
    refine w_qV f57_57 (Or.inl rfl) rfl (by omega) (okd_of (by assumption)) rfl ⟨Nat.le_of_ble_eq_true rfl, rfl, Nat.le_of_ble_eq_true rfl⟩ (en29 _ _) (m29f q) (fun o9 ho9 => ?_)
    obtain ⟨h1, ⟨p1, p2⟩, rfl⟩ := ho9
    refine w_bok (pv29 _ _) ?_
    refine w_aloadn f57_60 rfl (by omega) ?_
    refine w_aloadn f57_61 rfl (by omega) ?_
    refine w_getR f57_62 (by assumption) rfl (by omega) ?_
    refine w_cV f57_65 (Or.inl rfl) rfl (by omega) (okd_of (by assumption)) rfl ⟨Nat.le_of_ble_eq_true rfl, rfl, Nat.le_of_ble_eq_true rfl⟩ (en33 _ _) (x33 p1 (fun x y z => rfl)) (pv33 _ _) ?_
    refine w_istore f57_68 (Nat.le_of_ble_eq_true rfl) (sto_5_4 rfl) ?_
    refine w_aloadn f57_70 rfl (by omega) ?_
    refine w_iconst (v := 1) f57_71 (by decide) ?_
    refine w_iload f57_72 rfl ?_
    refine w_aloadn f57_74 rfl (by omega) ?_
    refine w_cV f57_75 (Or.inl rfl) rfl (by omega) (okd_of (by assumption)) rfl ⟨Nat.le_of_ble_eq_true rfl, rfl, Nat.le_of_ble_eq_true rfl⟩ (en34 _) (x34 p1 (fun x y z => rfl)) (pv34 _ _) ?_
    refine w_cV f57_78 (Or.inl rfl) rfl (by omega) (okd_of (by assumption)) rfl ⟨Nat.le_of_ble_eq_true rfl, rfl, Nat.le_of_ble_eq_true rfl⟩ (en58 _ _ _ _) (s58f (p := L.2.2.2) ((p2 _ _ (by omega)).trans p0) (by omega)) (pv58 _ _) ?_
    refine w_goto (t := 137) f57_81 (by decide) ?_
    exact l57f p1 p2.s rfl
  · rw [mSS_u (by omega) hf, es]
    rw [show mRst b n 2 (adv b n s) = pb (mKn b n 0 483 2 (adv b n s)) (fun s => mNum b n 1 s) from (if_neg (by decide)).trans (if_pos rfl)]
    refine w_aloadn f57_0 rfl (by omega) ?_
    refine w_getI f57_1 (by decide) (by assumption) (by (try simp only [hput, hcopy, Nat.reduceEqDiff, Nat.add_left_cancel_iff, Nat.add_right_cancel_iff, Nat.left_eq_add, Nat.add_eq_left, Nat.right_eq_add, Nat.add_eq_right, Nat.reduceAdd, Nat.add_zero, Nat.succ_ne_self, Nat.one_ne_zero, Nat.zero_ne_one, eq_self, and_self, and_true, true_and, and_false, false_and, if_true, if_false, reduceIte, Int.reduceToNat, Int.toNat_natCast, p0]); exact rfl) ?_
    refine w_bipush (v := 30) f57_4 (by decide) ?_
    refine w_ic_ge (t := 13) f57_6 (by decide) (fun c1 => by omega) (fun c1 => ?_)
    refine w_iconst (v := 1) f57_9 (by decide) ?_
    refine w_goto (t := 14) f57_10 (by decide) ?_
    refine w_istoren f57_14 (Nat.le_of_ble_eq_true rfl) (sto_5_3 rfl) ?_
    refine w_aloadn f57_15 rfl (by omega) ?_
    refine w_ldc f57_16 ?_
    refine w_cV f57_18 (Or.inl rfl) rfl (by omega) (okd_of (by assumption)) rfl ⟨Nat.le_of_ble_eq_true rfl, rfl, Nat.le_of_ble_eq_true rfl⟩ (en26 _ _) (s26n (t := 18) (l := tx_fire) (by decide) rfl q z0) (pv26 _ _) ?_
    refine w_if_eq (t := 46) f57_21 (by decide) (fun c2 => ?_) (fun c2 => by omega)
    refine w_aloadn f57_46 rfl (by omega) ?_
    refine w_ldc f57_47 ?_
    refine w_cV f57_49 (Or.inl rfl) rfl (by omega) (okd_of (by assumption)) rfl ⟨Nat.le_of_ble_eq_true rfl, rfl, Nat.le_of_ble_eq_true rfl⟩ (en26 _ _) (s26t (t := 19) (l := tx_set) (by decide) rfl q z) (pv26 _ _) ?_
    refine w_if_eq (t := 84) f57_52 (by decide) (fun c3 => by omega) (fun c3 => ?_)
    refine w_aloadn f57_55 rfl (by omega) ?_
    refine w_iloadn f57_56 rfl ?_
    refine w_qV f57_57 (Or.inl rfl) rfl (by omega) (okd_of (by assumption)) rfl ⟨Nat.le_of_ble_eq_true rfl, rfl, Nat.le_of_ble_eq_true rfl⟩ (en29 _ _) (m29t (s := s) q (by decide)) (fun o9 ho9 => ?_)
    obtain ⟨h1, ⟨p1, p2⟩, rfl⟩ := ho9
    have R1 := hR.fr (h1 := h1) hW.1 (fun x y z1 z2 => p2 x y (by omega))
    refine w_bok (pv29 _ _) ?_
    refine w_aloadn f57_60 rfl (by omega) ?_
    refine w_aloadn f57_61 rfl (by omega) ?_
    refine w_getR f57_62 (by assumption) rfl (by omega) ?_
    refine w_qV f57_65 (Or.inl rfl) rfl (by omega) (okd_of (by assumption)) rfl ⟨Nat.le_of_ble_eq_true rfl, rfl, Nat.le_of_ble_eq_true rfl⟩ (en33 _ _) (m33 (j := 0) (s := adv b n s) n3 (by omega) R1.1.2.2 ⟨v2.1, Int.le_trans v2.2 (by decide)⟩ p1) (fun o9 ho9 => ?_)
    rcases ho9 with ⟨s1, h2, ⟨b1, b2, b3⟩, rfl⟩ | ⟨e, h2, ⟨b1, b2, b3⟩, rfl⟩
    rotate_left
    · refine w_bok (pv33 _ _) ?_
      exact l57f68 (p := L.2.2.2) ((b3 _ _ (by omega)).trans ((p2 _ _ (by omega)).trans p0)) ⟨h30.1, by omega⟩ b2 (p2.tr b3).s (by rw [b1]; rfl)
    refine w_bok (pv33 _ _) ?_
    refine w_istore f57_68 (Nat.le_of_ble_eq_true rfl) (sto_5_4 rfl) ?_
    refine w_aloadn f57_70 rfl (by omega) ?_
    refine w_iconst (v := 1) f57_71 (by decide) ?_
    refine w_iload f57_72 rfl ?_
    refine w_aloadn f57_74 rfl (by omega) ?_
    refine w_qV f57_75 (Or.inl rfl) rfl (by omega) (okd_of (by assumption)) rfl ⟨Nat.le_of_ble_eq_true rfl, rfl, Nat.le_of_ble_eq_true rfl⟩ (en34 _) (m34 (j := 1) b2 (mKn_t b1)) (fun o9 ho9 => ?_)
    rcases ho9 with ⟨s2, h3, ⟨c1, c2, c3⟩, rfl⟩ | ⟨e, h3, ⟨c1, c2, c3⟩, rfl⟩
    rotate_left
    · refine w_bok (pv34 _ _) ?_
      exact l57f78 (p := L.2.2.2) ((c3 _ _ (by omega)).trans ((b3 _ _ (by omega)).trans ((p2 _ _ (by omega)).trans p0))) ⟨h30.1, by omega⟩ c2 ((p2.tr b3).tr c3).s (by rw [b1]; show mS2 b n (mNum b n 1 s1) _ = _; rw [c1]; rfl)
    refine w_bok (pv34 _ _) ?_
    refine w_cV f57_78 (Or.inl rfl) rfl (by omega) (okd_of (by assumption)) rfl ⟨Nat.le_of_ble_eq_true rfl, rfl, Nat.le_of_ble_eq_true rfl⟩ (en58 _ _ _ _) (s58 (p := L.2.2.2) ((c3 _ _ (by omega)).trans ((b3 _ _ (by omega)).trans ((p2 _ _ (by omega)).trans p0))) ⟨h30.1, by omega⟩) (pv58 _ _) ?_
    refine w_goto (t := 137) f57_81 (by decide) ?_
    have tt := (p2.tr b3).tr c3
    have m2 := mNum_nn c1
    rw [b1]
    show Rn _ (ScQ r d R h b n (mS2 b n (mNum b n 1 s1) _))
    rw [c1]
    exact l57g (s1 := s2) (c2.fr (fun x y z => pshC_o (by omega))) ((hL.fr (fun x y x1 x2 => tt x y (by omega))).push (a := s2.2.2 0) (c := s2.2.2 1) h30.1 (by decide) (by decide) (fun _ => (m2.2.2 0 (by decide)).symm) (fun _ => rfl)) tt.s.psh rfl
theorem l57reset {l : Nat} {s : PS} {L : SL} (hl : ShRl (KS r d) l) (l0 : 7 < l) (hW : WFm s.1) (hR : CRl h l s.1) (q : GT h b n s.2.1) (hL : SLc h L) (h30 : 0 ≤ L.2.2.2 ∧ L.2.2.2 ≤ 30) (z0 : ¬ isW b s.2.1 tx_fire = true) (z1 : ¬ isW b s.2.1 tx_set = true) (z : isW b s.2.1 tx_reset = true) : Rn (ev 57 0 [AR 4, AR 2, AR l, AU, AU] [] (KS r d, h, R)) (ScQ r d R h b n (mSS b n s L)) := by
  have k1 := @kd_4 r d
  have k2 := @kd_2 r d
  obtain ⟨l1, n1, n2, n3, -⟩ := hl
  have n21 := n2.1
  have n31 := n3.1
  obtain ⟨v0, v1, v2, v3, v4⟩ := hW.1
  have p0 : h 4 0 = L.2.2.2 := hL.1
  have es : scH b s.2.1 = 3 := by unfold scH; rw [if_neg z0, if_neg z1, if_pos z]
  by_cases hf : L.2.2.2 = 30
  · have em : mSS b n s L = .inl (5, s.2.1.1) := by unfold mSS; rw [if_neg (by omega), if_pos hf]
    rw [em]
    refine w_aloadn f57_0 rfl (by omega) ?_
    refine w_getI f57_1 (by decide) (by assumption) (by (try simp only [hput, hcopy, Nat.reduceEqDiff, Nat.add_left_cancel_iff, Nat.add_right_cancel_iff, Nat.left_eq_add, Nat.add_eq_left, Nat.right_eq_add, Nat.add_eq_right, Nat.reduceAdd, Nat.add_zero, Nat.succ_ne_self, Nat.one_ne_zero, Nat.zero_ne_one, eq_self, and_self, and_true, true_and, and_false, false_and, if_true, if_false, reduceIte, Int.reduceToNat, Int.toNat_natCast, p0]); exact rfl) ?_
    refine w_bipush (v := 30) f57_4 (by decide) ?_
    refine w_ic_ge (t := 13) f57_6 (by decide) (fun c1 => ?_) (fun c1 => by omega)
    refine w_iconst (v := 0) f57_13 (by decide) ?_
    refine w_istoren f57_14 (Nat.le_of_ble_eq_true rfl) (sto_5_3 rfl) ?_
    refine w_aloadn f57_15 rfl (by omega) ?_
    refine w_ldc f57_16 ?_
    refine w_cV f57_18 (Or.inl rfl) rfl (by omega) (okd_of (by assumption)) rfl ⟨Nat.le_of_ble_eq_true rfl, rfl, Nat.le_of_ble_eq_true rfl⟩ (en26 _ _) (s26n (t := 18) (l := tx_fire) (by decide) rfl q z0) (pv26 _ _) ?_
    refine w_if_eq (t := 46) f57_21 (by decide) (fun c2 => ?_) (fun c2 => by omega)
    refine w_aloadn f57_46 rfl (by omega) ?_
    refine w_ldc f57_47 ?_
    refine w_cV f57_49 (Or.inl rfl) rfl (by omega) (okd_of (by assumption)) rfl ⟨Nat.le_of_ble_eq_true rfl, rfl, Nat.le_of_ble_eq_true rfl⟩ (en26 _ _) (s26n (t := 19) (l := tx_set) (by decide) rfl q z1) (pv26 _ _) ?_
    refine w_if_eq (t := 84) f57_52 (by decide) (fun c3 => ?_) (fun c3 => by omega)
    refine w_aloadn f57_84 rfl (by omega) ?_
    refine w_ldc f57_85 ?_
    refine w_cV f57_87 (Or.inl rfl) rfl (by omega) (okd_of (by assumption)) rfl ⟨Nat.le_of_ble_eq_true rfl, rfl, Nat.le_of_ble_eq_true rfl⟩ (en26 _ _) (s26t (t := 20) (l := tx_reset) (by decide) rfl q z) (pv26 _ _) ?_
    refine w_if_eq (t := 108) f57_90 (by decide) (fun c4 => by omega) (fun c4 => ?_)
    refine w_aloadn f57_93 rfl (by omega) ?_
    refine w_iloadn f57_94 rfl ?_
    refine w_qV f57_95 (Or.inl rfl) rfl (by omega) (okd_of (by assumption)) rfl ⟨Nat.le_of_ble_eq_true rfl, rfl, Nat.le_of_ble_eq_true rfl⟩ (en29 _ _) (m29f q) (fun o9 ho9 => ?_)
    obtain ⟨h1, ⟨p1, p2⟩, rfl⟩ := ho9
    refine w_bok (pv29 _ _) ?_
    refine w_aloadn f57_98 rfl (by omega) ?_
    refine w_iconst (v := 2) f57_99 (by decide) ?_
    refine w_iconst (v := -1) f57_100 (by decide) ?_
    refine w_iconst (v := 0) f57_101 (by decide) ?_
    refine w_cV f57_102 (Or.inl rfl) rfl (by omega) (okd_of (by assumption)) rfl ⟨Nat.le_of_ble_eq_true rfl, rfl, Nat.le_of_ble_eq_true rfl⟩ (en58 _ _ _ _) (s58f (p := L.2.2.2) ((p2 _ _ (by omega)).trans p0) (by omega)) (pv58 _ _) ?_
    refine w_goto (t := 137) f57_105 (by decide) ?_
    exact l57f p1 p2.s rfl
  · rw [mSS_u (by omega) hf, es]
    rw [show mRst b n 3 (adv b n s) = .inr (adv b n s) from (if_neg (by decide)).trans (if_neg (by decide))]
    refine w_aloadn f57_0 rfl (by omega) ?_
    refine w_getI f57_1 (by decide) (by assumption) (by (try simp only [hput, hcopy, Nat.reduceEqDiff, Nat.add_left_cancel_iff, Nat.add_right_cancel_iff, Nat.left_eq_add, Nat.add_eq_left, Nat.right_eq_add, Nat.add_eq_right, Nat.reduceAdd, Nat.add_zero, Nat.succ_ne_self, Nat.one_ne_zero, Nat.zero_ne_one, eq_self, and_self, and_true, true_and, and_false, false_and, if_true, if_false, reduceIte, Int.reduceToNat, Int.toNat_natCast, p0]); exact rfl) ?_
    refine w_bipush (v := 30) f57_4 (by decide) ?_
    refine w_ic_ge (t := 13) f57_6 (by decide) (fun c1 => by omega) (fun c1 => ?_)
    refine w_iconst (v := 1) f57_9 (by decide) ?_
    refine w_goto (t := 14) f57_10 (by decide) ?_
    refine w_istoren f57_14 (Nat.le_of_ble_eq_true rfl) (sto_5_3 rfl) ?_
    refine w_aloadn f57_15 rfl (by omega) ?_
    refine w_ldc f57_16 ?_
    refine w_cV f57_18 (Or.inl rfl) rfl (by omega) (okd_of (by assumption)) rfl ⟨Nat.le_of_ble_eq_true rfl, rfl, Nat.le_of_ble_eq_true rfl⟩ (en26 _ _) (s26n (t := 18) (l := tx_fire) (by decide) rfl q z0) (pv26 _ _) ?_
    refine w_if_eq (t := 46) f57_21 (by decide) (fun c2 => ?_) (fun c2 => by omega)
    refine w_aloadn f57_46 rfl (by omega) ?_
    refine w_ldc f57_47 ?_
    refine w_cV f57_49 (Or.inl rfl) rfl (by omega) (okd_of (by assumption)) rfl ⟨Nat.le_of_ble_eq_true rfl, rfl, Nat.le_of_ble_eq_true rfl⟩ (en26 _ _) (s26n (t := 19) (l := tx_set) (by decide) rfl q z1) (pv26 _ _) ?_
    refine w_if_eq (t := 84) f57_52 (by decide) (fun c3 => ?_) (fun c3 => by omega)
    refine w_aloadn f57_84 rfl (by omega) ?_
    refine w_ldc f57_85 ?_
    refine w_cV f57_87 (Or.inl rfl) rfl (by omega) (okd_of (by assumption)) rfl ⟨Nat.le_of_ble_eq_true rfl, rfl, Nat.le_of_ble_eq_true rfl⟩ (en26 _ _) (s26t (t := 20) (l := tx_reset) (by decide) rfl q z) (pv26 _ _) ?_
    refine w_if_eq (t := 108) f57_90 (by decide) (fun c4 => by omega) (fun c4 => ?_)
    refine w_aloadn f57_93 rfl (by omega) ?_
    refine w_iloadn f57_94 rfl ?_
    refine w_qV f57_95 (Or.inl rfl) rfl (by omega) (okd_of (by assumption)) rfl ⟨Nat.le_of_ble_eq_true rfl, rfl, Nat.le_of_ble_eq_true rfl⟩ (en29 _ _) (m29t (s := s) q (by decide)) (fun o9 ho9 => ?_)
    obtain ⟨h1, ⟨p1, p2⟩, rfl⟩ := ho9
    have R1 := hR.fr (h1 := h1) hW.1 (fun x y z1 z2 => p2 x y (by omega))
    refine w_bok (pv29 _ _) ?_
    refine w_aloadn f57_98 rfl (by omega) ?_
    refine w_iconst (v := 2) f57_99 (by decide) ?_
    refine w_iconst (v := -1) f57_100 (by decide) ?_
    refine w_iconst (v := 0) f57_101 (by decide) ?_
    refine w_cV f57_102 (Or.inl rfl) rfl (by omega) (okd_of (by assumption)) rfl ⟨Nat.le_of_ble_eq_true rfl, rfl, Nat.le_of_ble_eq_true rfl⟩ (en58 _ _ _ _) (s58 (p := L.2.2.2) ((p2 _ _ (by omega)).trans p0) ⟨h30.1, by omega⟩) (pv58 _ _) ?_
    refine w_goto (t := 137) f57_105 (by decide) ?_
    exact l57g (s1 := adv b n s) (p1.fr (fun x y z => pshC_o (by omega))) ((hL.fr (fun x y x1 x2 => p2 x y (by omega))).push (a := s.2.2 0) (c := s.2.2 1) h30.1 (by decide) (by decide) (fun z => absurd z (show ¬ (3 : Int) ≤ 2 by decide)) (fun z => absurd z (show ¬ (3 : Int) = 2 by decide))) p2.s.psh rfl
theorem l57clear {l : Nat} {s : PS} {L : SL} (hl : ShRl (KS r d) l) (l0 : 7 < l) (hW : WFm s.1) (hR : CRl h l s.1) (q : GT h b n s.2.1) (hL : SLc h L) (h30 : 0 ≤ L.2.2.2 ∧ L.2.2.2 ≤ 30) (z0 : ¬ isW b s.2.1 tx_fire = true) (z1 : ¬ isW b s.2.1 tx_set = true) (z2 : ¬ isW b s.2.1 tx_reset = true) (z : isW b s.2.1 tx_clear = true) : Rn (ev 57 0 [AR 4, AR 2, AR l, AU, AU] [] (KS r d, h, R)) (ScQ r d R h b n (mSS b n s L)) := by
  have k1 := @kd_4 r d
  have k2 := @kd_2 r d
  obtain ⟨l1, n1, n2, n3, -⟩ := hl
  have n21 := n2.1
  have n31 := n3.1
  obtain ⟨v0, v1, v2, v3, v4⟩ := hW.1
  have p0 : h 4 0 = L.2.2.2 := hL.1
  have es : scH b s.2.1 = 4 := by unfold scH; rw [if_neg z0, if_neg z1, if_neg z2, if_pos z]
  by_cases hf : L.2.2.2 = 30
  · have em : mSS b n s L = .inl (5, s.2.1.1) := by unfold mSS; rw [if_neg (by omega), if_pos hf]
    rw [em]
    refine w_aloadn f57_0 rfl (by omega) ?_
    refine w_getI f57_1 (by decide) (by assumption) (by (try simp only [hput, hcopy, Nat.reduceEqDiff, Nat.add_left_cancel_iff, Nat.add_right_cancel_iff, Nat.left_eq_add, Nat.add_eq_left, Nat.right_eq_add, Nat.add_eq_right, Nat.reduceAdd, Nat.add_zero, Nat.succ_ne_self, Nat.one_ne_zero, Nat.zero_ne_one, eq_self, and_self, and_true, true_and, and_false, false_and, if_true, if_false, reduceIte, Int.reduceToNat, Int.toNat_natCast, p0]); exact rfl) ?_
    refine w_bipush (v := 30) f57_4 (by decide) ?_
    refine w_ic_ge (t := 13) f57_6 (by decide) (fun c1 => ?_) (fun c1 => by omega)
    refine w_iconst (v := 0) f57_13 (by decide) ?_
    refine w_istoren f57_14 (Nat.le_of_ble_eq_true rfl) (sto_5_3 rfl) ?_
    refine w_aloadn f57_15 rfl (by omega) ?_
    refine w_ldc f57_16 ?_
    refine w_cV f57_18 (Or.inl rfl) rfl (by omega) (okd_of (by assumption)) rfl ⟨Nat.le_of_ble_eq_true rfl, rfl, Nat.le_of_ble_eq_true rfl⟩ (en26 _ _) (s26n (t := 18) (l := tx_fire) (by decide) rfl q z0) (pv26 _ _) ?_
    refine w_if_eq (t := 46) f57_21 (by decide) (fun c2 => ?_) (fun c2 => by omega)
    refine w_aloadn f57_46 rfl (by omega) ?_
    refine w_ldc f57_47 ?_
    refine w_cV f57_49 (Or.inl rfl) rfl (by omega) (okd_of (by assumption)) rfl ⟨Nat.le_of_ble_eq_true rfl, rfl, Nat.le_of_ble_eq_true rfl⟩ (en26 _ _) (s26n (t := 19) (l := tx_set) (by decide) rfl q z1) (pv26 _ _) ?_
    refine w_if_eq (t := 84) f57_52 (by decide) (fun c3 => ?_) (fun c3 => by omega)
    refine w_aloadn f57_84 rfl (by omega) ?_
    refine w_ldc f57_85 ?_
    refine w_cV f57_87 (Or.inl rfl) rfl (by omega) (okd_of (by assumption)) rfl ⟨Nat.le_of_ble_eq_true rfl, rfl, Nat.le_of_ble_eq_true rfl⟩ (en26 _ _) (s26n (t := 20) (l := tx_reset) (by decide) rfl q z2) (pv26 _ _) ?_
    refine w_if_eq (t := 108) f57_90 (by decide) (fun c4 => ?_) (fun c4 => by omega)
    refine w_aloadn f57_108 rfl (by omega) ?_
    refine w_ldc f57_109 ?_
    refine w_cV f57_111 (Or.inl rfl) rfl (by omega) (okd_of (by assumption)) rfl ⟨Nat.le_of_ble_eq_true rfl, rfl, Nat.le_of_ble_eq_true rfl⟩ (en26 _ _) (s26t (t := 21) (l := tx_clear) (by decide) rfl q z) (pv26 _ _) ?_
    refine w_if_eq (t := 132) f57_114 (by decide) (fun c5 => by omega) (fun c5 => ?_)
    refine w_aloadn f57_117 rfl (by omega) ?_
    refine w_iloadn f57_118 rfl ?_
    refine w_qV f57_119 (Or.inl rfl) rfl (by omega) (okd_of (by assumption)) rfl ⟨Nat.le_of_ble_eq_true rfl, rfl, Nat.le_of_ble_eq_true rfl⟩ (en29 _ _) (m29f q) (fun o9 ho9 => ?_)
    obtain ⟨h1, ⟨p1, p2⟩, rfl⟩ := ho9
    refine w_bok (pv29 _ _) ?_
    refine w_aloadn f57_122 rfl (by omega) ?_
    refine w_iconst (v := 3) f57_123 (by decide) ?_
    refine w_iconst (v := -1) f57_124 (by decide) ?_
    refine w_iconst (v := 0) f57_125 (by decide) ?_
    refine w_cV f57_126 (Or.inl rfl) rfl (by omega) (okd_of (by assumption)) rfl ⟨Nat.le_of_ble_eq_true rfl, rfl, Nat.le_of_ble_eq_true rfl⟩ (en58 _ _ _ _) (s58f (p := L.2.2.2) ((p2 _ _ (by omega)).trans p0) (by omega)) (pv58 _ _) ?_
    refine w_goto (t := 137) f57_129 (by decide) ?_
    exact l57f p1 p2.s rfl
  · rw [mSS_u (by omega) hf, es]
    rw [show mRst b n 4 (adv b n s) = .inr (adv b n s) from (if_neg (by decide)).trans (if_neg (by decide))]
    refine w_aloadn f57_0 rfl (by omega) ?_
    refine w_getI f57_1 (by decide) (by assumption) (by (try simp only [hput, hcopy, Nat.reduceEqDiff, Nat.add_left_cancel_iff, Nat.add_right_cancel_iff, Nat.left_eq_add, Nat.add_eq_left, Nat.right_eq_add, Nat.add_eq_right, Nat.reduceAdd, Nat.add_zero, Nat.succ_ne_self, Nat.one_ne_zero, Nat.zero_ne_one, eq_self, and_self, and_true, true_and, and_false, false_and, if_true, if_false, reduceIte, Int.reduceToNat, Int.toNat_natCast, p0]); exact rfl) ?_
    refine w_bipush (v := 30) f57_4 (by decide) ?_
    refine w_ic_ge (t := 13) f57_6 (by decide) (fun c1 => by omega) (fun c1 => ?_)
    refine w_iconst (v := 1) f57_9 (by decide) ?_
    refine w_goto (t := 14) f57_10 (by decide) ?_
    refine w_istoren f57_14 (Nat.le_of_ble_eq_true rfl) (sto_5_3 rfl) ?_
    refine w_aloadn f57_15 rfl (by omega) ?_
    refine w_ldc f57_16 ?_
    refine w_cV f57_18 (Or.inl rfl) rfl (by omega) (okd_of (by assumption)) rfl ⟨Nat.le_of_ble_eq_true rfl, rfl, Nat.le_of_ble_eq_true rfl⟩ (en26 _ _) (s26n (t := 18) (l := tx_fire) (by decide) rfl q z0) (pv26 _ _) ?_
    refine w_if_eq (t := 46) f57_21 (by decide) (fun c2 => ?_) (fun c2 => by omega)
    refine w_aloadn f57_46 rfl (by omega) ?_
    refine w_ldc f57_47 ?_
    refine w_cV f57_49 (Or.inl rfl) rfl (by omega) (okd_of (by assumption)) rfl ⟨Nat.le_of_ble_eq_true rfl, rfl, Nat.le_of_ble_eq_true rfl⟩ (en26 _ _) (s26n (t := 19) (l := tx_set) (by decide) rfl q z1) (pv26 _ _) ?_
    refine w_if_eq (t := 84) f57_52 (by decide) (fun c3 => ?_) (fun c3 => by omega)
    refine w_aloadn f57_84 rfl (by omega) ?_
    refine w_ldc f57_85 ?_
    refine w_cV f57_87 (Or.inl rfl) rfl (by omega) (okd_of (by assumption)) rfl ⟨Nat.le_of_ble_eq_true rfl, rfl, Nat.le_of_ble_eq_true rfl⟩ (en26 _ _) (s26n (t := 20) (l := tx_reset) (by decide) rfl q z2) (pv26 _ _) ?_
    refine w_if_eq (t := 108) f57_90 (by decide) (fun c4 => ?_) (fun c4 => by omega)
    refine w_aloadn f57_108 rfl (by omega) ?_
    refine w_ldc f57_109 ?_
    refine w_cV f57_111 (Or.inl rfl) rfl (by omega) (okd_of (by assumption)) rfl ⟨Nat.le_of_ble_eq_true rfl, rfl, Nat.le_of_ble_eq_true rfl⟩ (en26 _ _) (s26t (t := 21) (l := tx_clear) (by decide) rfl q z) (pv26 _ _) ?_
    refine w_if_eq (t := 132) f57_114 (by decide) (fun c5 => by omega) (fun c5 => ?_)
    refine w_aloadn f57_117 rfl (by omega) ?_
    refine w_iloadn f57_118 rfl ?_
    refine w_qV f57_119 (Or.inl rfl) rfl (by omega) (okd_of (by assumption)) rfl ⟨Nat.le_of_ble_eq_true rfl, rfl, Nat.le_of_ble_eq_true rfl⟩ (en29 _ _) (m29t (s := s) q (by decide)) (fun o9 ho9 => ?_)
    obtain ⟨h1, ⟨p1, p2⟩, rfl⟩ := ho9
    have R1 := hR.fr (h1 := h1) hW.1 (fun x y z1 z2 => p2 x y (by omega))
    refine w_bok (pv29 _ _) ?_
    refine w_aloadn f57_122 rfl (by omega) ?_
    refine w_iconst (v := 3) f57_123 (by decide) ?_
    refine w_iconst (v := -1) f57_124 (by decide) ?_
    refine w_iconst (v := 0) f57_125 (by decide) ?_
    refine w_cV f57_126 (Or.inl rfl) rfl (by omega) (okd_of (by assumption)) rfl ⟨Nat.le_of_ble_eq_true rfl, rfl, Nat.le_of_ble_eq_true rfl⟩ (en58 _ _ _ _) (s58 (p := L.2.2.2) ((p2 _ _ (by omega)).trans p0) ⟨h30.1, by omega⟩) (pv58 _ _) ?_
    refine w_goto (t := 137) f57_129 (by decide) ?_
    exact l57g (s1 := adv b n s) (p1.fr (fun x y z => pshC_o (by omega))) ((hL.fr (fun x y x1 x2 => p2 x y (by omega))).push (a := s.2.2 0) (c := s.2.2 1) h30.1 (by decide) (by decide) (fun z => absurd z (show ¬ (4 : Int) ≤ 2 by decide)) (fun z => absurd z (show ¬ (4 : Int) = 2 by decide))) p2.s.psh rfl
theorem l57no {l : Nat} {s : PS} {L : SL} (l0 : 7 < l) (q : GT h b n s.2.1) (hL : SLc h L) (z0 : ¬ isW b s.2.1 tx_fire = true) (z1 : ¬ isW b s.2.1 tx_set = true) (z2 : ¬ isW b s.2.1 tx_reset = true) (z3 : ¬ isW b s.2.1 tx_clear = true) : Rn (ev 57 0 [AR 4, AR 2, AR l, AU, AU] [] (KS r d, h, R)) (ScQ r d R h b n (mSS b n s L)) := by
  have k1 := @kd_4 r d
  have k2 := @kd_2 r d
  have p0 : h 4 0 = L.2.2.2 := hL.1
  have es : scH b s.2.1 = 0 := by unfold scH; rw [if_neg z0, if_neg z1, if_neg z2, if_neg z3]
  have em : mSS b n s L = .inl (1, s.2.1.1) := by unfold mSS; rw [if_pos es]
  rw [em]
  refine w_aloadn f57_0 rfl (by omega) ?_
  refine w_getI f57_1 (by decide) (by assumption) (by (try simp only [hput, hcopy, Nat.reduceEqDiff, Nat.add_left_cancel_iff, Nat.add_right_cancel_iff, Nat.left_eq_add, Nat.add_eq_left, Nat.right_eq_add, Nat.add_eq_right, Nat.reduceAdd, Nat.add_zero, Nat.succ_ne_self, Nat.one_ne_zero, Nat.zero_ne_one, eq_self, and_self, and_true, true_and, and_false, false_and, if_true, if_false, reduceIte, Int.reduceToNat, Int.toNat_natCast, p0]); exact rfl) ?_
  refine w_bipush (v := 30) f57_4 (by decide) ?_
  refine w_ic_ge (t := 13) f57_6 (by decide) (fun c1 => ?_) (fun c1 => ?_)
  · refine w_iconst (v := 0) f57_13 (by decide) ?_
    refine w_istoren f57_14 (Nat.le_of_ble_eq_true rfl) (sto_5_3 rfl) ?_
    refine w_aloadn f57_15 rfl (by omega) ?_
    refine w_ldc f57_16 ?_
    refine w_cV f57_18 (Or.inl rfl) rfl (by omega) (okd_of (by assumption)) rfl ⟨Nat.le_of_ble_eq_true rfl, rfl, Nat.le_of_ble_eq_true rfl⟩ (en26 _ _) (s26n (t := 18) (l := tx_fire) (by decide) rfl q z0) (pv26 _ _) ?_
    refine w_if_eq (t := 46) f57_21 (by decide) (fun c2 => ?_) (fun c2 => by omega)
    refine w_aloadn f57_46 rfl (by omega) ?_
    refine w_ldc f57_47 ?_
    refine w_cV f57_49 (Or.inl rfl) rfl (by omega) (okd_of (by assumption)) rfl ⟨Nat.le_of_ble_eq_true rfl, rfl, Nat.le_of_ble_eq_true rfl⟩ (en26 _ _) (s26n (t := 19) (l := tx_set) (by decide) rfl q z1) (pv26 _ _) ?_
    refine w_if_eq (t := 84) f57_52 (by decide) (fun c3 => ?_) (fun c3 => by omega)
    refine w_aloadn f57_84 rfl (by omega) ?_
    refine w_ldc f57_85 ?_
    refine w_cV f57_87 (Or.inl rfl) rfl (by omega) (okd_of (by assumption)) rfl ⟨Nat.le_of_ble_eq_true rfl, rfl, Nat.le_of_ble_eq_true rfl⟩ (en26 _ _) (s26n (t := 20) (l := tx_reset) (by decide) rfl q z2) (pv26 _ _) ?_
    refine w_if_eq (t := 108) f57_90 (by decide) (fun c4 => ?_) (fun c4 => by omega)
    refine w_aloadn f57_108 rfl (by omega) ?_
    refine w_ldc f57_109 ?_
    refine w_cV f57_111 (Or.inl rfl) rfl (by omega) (okd_of (by assumption)) rfl ⟨Nat.le_of_ble_eq_true rfl, rfl, Nat.le_of_ble_eq_true rfl⟩ (en26 _ _) (s26n (t := 21) (l := tx_clear) (by decide) rfl q z3) (pv26 _ _) ?_
    refine w_if_eq (t := 132) f57_114 (by decide) (fun c5 => ?_) (fun c5 => by omega)
    refine w_aloadn f57_132 rfl (by omega) ?_
    refine w_iconst (v := 1) f57_133 (by decide) ?_
    refine w_cV f57_134 (Or.inl rfl) rfl (by omega) (okd_of (by assumption)) rfl ⟨Nat.le_of_ble_eq_true rfl, rfl, Nat.le_of_ble_eq_true rfl⟩ (en24 _ _) (s24) (pv24 _ _) ?_
    exact l57f (e := (1, s.2.1.1, s.1)) (fle_F q (by decide)) fle_o.s rfl
  · refine w_iconst (v := 1) f57_9 (by decide) ?_
    refine w_goto (t := 14) f57_10 (by decide) ?_
    refine w_istoren f57_14 (Nat.le_of_ble_eq_true rfl) (sto_5_3 rfl) ?_
    refine w_aloadn f57_15 rfl (by omega) ?_
    refine w_ldc f57_16 ?_
    refine w_cV f57_18 (Or.inl rfl) rfl (by omega) (okd_of (by assumption)) rfl ⟨Nat.le_of_ble_eq_true rfl, rfl, Nat.le_of_ble_eq_true rfl⟩ (en26 _ _) (s26n (t := 18) (l := tx_fire) (by decide) rfl q z0) (pv26 _ _) ?_
    refine w_if_eq (t := 46) f57_21 (by decide) (fun c6 => ?_) (fun c6 => by omega)
    refine w_aloadn f57_46 rfl (by omega) ?_
    refine w_ldc f57_47 ?_
    refine w_cV f57_49 (Or.inl rfl) rfl (by omega) (okd_of (by assumption)) rfl ⟨Nat.le_of_ble_eq_true rfl, rfl, Nat.le_of_ble_eq_true rfl⟩ (en26 _ _) (s26n (t := 19) (l := tx_set) (by decide) rfl q z1) (pv26 _ _) ?_
    refine w_if_eq (t := 84) f57_52 (by decide) (fun c7 => ?_) (fun c7 => by omega)
    refine w_aloadn f57_84 rfl (by omega) ?_
    refine w_ldc f57_85 ?_
    refine w_cV f57_87 (Or.inl rfl) rfl (by omega) (okd_of (by assumption)) rfl ⟨Nat.le_of_ble_eq_true rfl, rfl, Nat.le_of_ble_eq_true rfl⟩ (en26 _ _) (s26n (t := 20) (l := tx_reset) (by decide) rfl q z2) (pv26 _ _) ?_
    refine w_if_eq (t := 108) f57_90 (by decide) (fun c8 => ?_) (fun c8 => by omega)
    refine w_aloadn f57_108 rfl (by omega) ?_
    refine w_ldc f57_109 ?_
    refine w_cV f57_111 (Or.inl rfl) rfl (by omega) (okd_of (by assumption)) rfl ⟨Nat.le_of_ble_eq_true rfl, rfl, Nat.le_of_ble_eq_true rfl⟩ (en26 _ _) (s26n (t := 21) (l := tx_clear) (by decide) rfl q z3) (pv26 _ _) ?_
    refine w_if_eq (t := 132) f57_114 (by decide) (fun c9 => ?_) (fun c9 => by omega)
    refine w_aloadn f57_132 rfl (by omega) ?_
    refine w_iconst (v := 1) f57_133 (by decide) ?_
    refine w_cV f57_134 (Or.inl rfl) rfl (by omega) (okd_of (by assumption)) rfl ⟨Nat.le_of_ble_eq_true rfl, rfl, Nat.le_of_ble_eq_true rfl⟩ (en24 _ _) (s24) (pv24 _ _) ?_
    exact l57f (e := (1, s.2.1.1, s.1)) (fle_F q (by decide)) fle_o.s rfl
theorem s57 {l : Nat} {s : PS} {L : SL} (hl : ShRl (KS r d) l) (l0 : 7 < l) (hW : WFm s.1) (hR : CRl h l s.1) (q : GT h b n s.2.1) (hL : SLc h L) (h30 : 0 ≤ L.2.2.2 ∧ L.2.2.2 ≤ 30) : Rn (ev 57 0 [AR 4, AR 2, AR l, AU, AU] [] (KS r d, h, R)) (ScQ r d R h b n (mSS b n s L)) := by
  by_cases z0 : isW b s.2.1 tx_fire = true
  · exact l57fire hl l0 hW hR q hL h30 z0
  by_cases z1 : isW b s.2.1 tx_set = true
  · exact l57set hl l0 hW hR q hL h30 z0 z1
  by_cases z2 : isW b s.2.1 tx_reset = true
  · exact l57reset hl l0 hW hR q hL h30 z0 z1 z2
  by_cases z3 : isW b s.2.1 tx_clear = true
  · exact l57clear hl l0 hW hR q hL h30 z0 z1 z2 z3
  · exact l57no l0 q hL z0 z1 z2 z3
end A

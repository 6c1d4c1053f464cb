/-! the class's reading: statements -/
section A
variable {K : List AKd} {h : Nat → Nat → Int} {R : R4} {σ : Sg} {r d : Nat} {w : Nat → Int} {b : Nat → Int} {n : Int}
theorem pb_assoc {m : PM} {f g : PS → PM} : pb (pb m f) g = pb m (fun s => pb (f s) g) := by cases m <;> rfl
theorem m29t {x : Int} {s : PS} (q : GT h b n s.2.1) (hx : x ≠ 0) : Rn (ev 29 0 [AR 2, AI x] [] (KS r d, h, R)) (fun o => ∃ h1, (GT h1 b n (adv b n s).2.1 ∧ TxO h h1) ∧ o = (.inl AU, (KS r d, h1, R))) := by
  refine (s29 q.1).mono (fun o p => ?_)
  rcases p with ⟨p1, h1, ⟨p3, p4⟩, rfl⟩ | ⟨p1, rfl⟩
  · exact ⟨h1, ⟨p3.g p4 q.2, p3.o⟩, rfl⟩
  · exact absurd p1 hx
theorem m29f {s : PS} (q : GT h b n s.2.1) : Rn (ev 29 0 [AR 2, AI 0] [] (KS r d, h, R)) (fun o => ∃ h1, (FT h1 b n (5, s.2.1.1, s.1) ∧ TxO h h1) ∧ o = (.inl AU, (KS r d, h1, R))) := by
  refine (s29 q.1).mono (fun o p => ?_)
  rcases p with ⟨p1, h1, ⟨p3, p4⟩, rfl⟩ | ⟨p1, rfl⟩
  · exact absurd rfl p1
  · exact ⟨_, ⟨fle_F q (by decide), fle_o⟩, rfl⟩
theorem s26t {t : Nat} {T : Tk} {l : List Int} (ht : t < am_txt.length) (hl : text (t + 1) = l) (q : GT h b n T) (hw : isW b T l = true) : ev 26 0 [AR 2, AS (t + 1), AU] [] (KS r d, h, R) = some (.inl (AI 1), (KS r d, h, R)) := by
  subst hl
  rw [s26 ht q.1, b2i_t ⟨q.2.1, hw⟩]
theorem s26n {t : Nat} {T : Tk} {l : List Int} (ht : t < am_txt.length) (hl : text (t + 1) = l) (q : GT h b n T) (hw : ¬ isW b T l = true) : ev 26 0 [AR 2, AS (t + 1), AU] [] (KS r d, h, R) = some (.inl (AI 0), (KS r d, h, R)) := by
  subst hl
  rw [s26 ht q.1, b2i_f (fun z => hw z.2)]
theorem l51g {h0 : Nat → Nat → Int} {k : Nat} {s1 : PS} {m : PM} (k0 : 3 < k) (q : GT h b n s1.2.1) (hR : RRl h k s1.1) (hF : FmO k h0 h) (hm : m = mSem b n s1) (hWs : ∀ s2, mSem b n s1 = .inr s2 → WFb s1.1) : Rn (ev 51 244 [AR k, AR 2] [] (KS r d, h, R)) (RdQ r d R h0 b n k m) := by
  have k2 := @kd_2 r d
  rw [hm]
  refine w_aloadn f51_244 rfl (by omega) ?_
  refine w_qV f51_245 (Or.inl rfl) rfl (by omega) (okd_of (by assumption)) rfl ⟨Nat.le_of_ble_eq_true rfl, rfl, Nat.le_of_ble_eq_true rfl⟩ (en30 _) (m30 q) (fun o9 ho9 => ?_)
  rcases ho9 with ⟨s2, h1, ⟨a1, a2, a3⟩, rfl⟩ | ⟨e, h1, ⟨a1, a2, a3⟩, rfl⟩
  rotate_left
  · refine w_bok (pv30 _ _) ?_
    refine w_ret f51_248 rfl ?_
    exact Or.inr ⟨e, h1, ⟨a1, a2, hF.tr a3.m⟩, rfl⟩
  refine w_bok (pv30 _ _) ?_
  refine w_ret f51_248 rfl ?_
  exact Or.inl ⟨s2, h1, ⟨a1, a2, by rw [mSem_w a1]; exact hR.o (hWs _ a1) k0 a3, hF.tr a3.m⟩, rfl⟩
theorem l51f {h0 : Nat → Nat → Int} {k : Nat} {e : Int × Int × (Nat → Int)} {m : PM} (k0 : 3 < k) (q : FT h b n e) (hF : FmO k h0 h) (hm : m = .inl e) : Rn (ev 51 244 [AR k, AR 2] [] (KS r d, h, R)) (RdQ r d R h0 b n k m) := by
  have k2 := @kd_2 r d
  refine w_aloadn f51_244 rfl (by omega) ?_
  refine w_cV f51_245 (Or.inl rfl) rfl (by omega) (okd_of (by assumption)) rfl ⟨Nat.le_of_ble_eq_true rfl, rfl, Nat.le_of_ble_eq_true rfl⟩ (en30 _) (x30 q (fun x y z => rfl)) (pv30 _ _) ?_
  refine w_ret f51_248 rfl ?_
  exact Or.inr ⟨e, h, ⟨hm, q, hF⟩, rfl⟩
/-- a name is read -/
def mN (b : Nat → Int) (n : Int) (f c : Int) (s : PS) : PM := pb (mNew b n f c s) (fun s => .inr (udI s.1 c.toNat (s.1 c.toNat + 1), s.2.1, s.2.2))

theorem s38f {k : Nat} {p x1 x2 x3 x4 : Int} (hk : ShIv (KS r d) k) (k0 : 0 < k) (e : h k 0 = p) (hp : 12 ≤ p) : ev 38 0 [AR k, AI x1, AI x2, AI x3, AI x4] [] (KS r d, h, R) = some (.inl AU, (KS r d, h, R)) := by
  refine Rn.eq ?_
  obtain ⟨k1, k2, k3, k4, k5⟩ := hk
  refine w_aloadn f38_0 rfl (by omega) ?_
  refine w_getI f38_1 (by decide) (by assumption) (by (try simp only [hput, hcopy, Nat.reduceEqDiff, Nat.add_left_cancel_iff, Nat.add_right_cancel_iff, Nat.left_eq_add, Nat.add_eq_left, Nat.right_eq_add, Nat.add_eq_right, Nat.reduceAdd, Nat.add_zero, Nat.succ_ne_self, Nat.one_ne_zero, Nat.zero_ne_one, eq_self, and_self, and_true, true_and, and_false, false_and, if_true, if_false, reduceIte, Int.reduceToNat, Int.toNat_natCast, e]); exact rfl) ?_
  refine w_bipush (v := 12) f38_4 (by decide) ?_
  refine w_ic_lt (t := 10) f38_6 (by decide) (fun c1 => by omega) (fun c1 => ?_)
  refine w_ret f38_9 rfl ?_
  rfl
theorem x54F {k : Nat} {x p : Int} {e : Int × Int × (Nat → Int)} (hk : ShRl (KS r d) k) (k0 : 3 < k) (hF : FT h b n e) (hp : h (k + 42) 0 = p) (hp0 : 0 ≤ p) : Rn (ev 54 0 [AR k, AR 2, AI x, AU, AU, AU] [] (KS r d, h, R)) (RfQ r d R h b n k e) := by
  by_cases z : p < 12
  · exact x54 hk k0 hF hp ⟨hp0, z⟩
  · have k2 := @kd_2 r d
    obtain ⟨k1, -, -, hn, -, hi, -⟩ := hk
    have n1 := hn.1
    have i1 := hi.1
    refine w_aloadn f54_0 rfl (by omega) ?_
    refine w_aloadn f54_1 rfl (by omega) ?_
    refine w_getR f54_2 (by assumption) rfl (by omega) ?_
    refine w_cV f54_5 (Or.inl rfl) rfl (by omega) (okd_of (by assumption)) rfl ⟨Nat.le_of_ble_eq_true rfl, rfl, Nat.le_of_ble_eq_true rfl⟩ (en33 _ _) (x33 hF (fun x y z => rfl)) (pv33 _ _) ?_
    refine w_istoren f54_8 (Nat.le_of_ble_eq_true rfl) (sto_6_3 rfl) ?_
    refine w_aloadn f54_9 rfl (by omega) ?_
    refine w_cV f54_10 (Or.inl rfl) rfl (by omega) (okd_of (by assumption)) rfl ⟨Nat.le_of_ble_eq_true rfl, rfl, Nat.le_of_ble_eq_true rfl⟩ (en35 _) (x35 hF (fun x y z => rfl)) (pv35 _ _) ?_
    refine w_istore f54_13 (Nat.le_of_ble_eq_true rfl) (sto_6_4 rfl) ?_
    refine w_aloadn f54_15 rfl (by omega) ?_
    refine w_cV f54_16 (Or.inl rfl) rfl (by omega) (okd_of (by assumption)) rfl ⟨Nat.le_of_ble_eq_true rfl, rfl, Nat.le_of_ble_eq_true rfl⟩ (en34 _) (x34 hF (fun x y z => rfl)) (pv34 _ _) ?_
    refine w_istore f54_19 (Nat.le_of_ble_eq_true rfl) (sto_6_5 rfl) ?_
    refine w_aloadn f54_21 rfl (by omega) ?_
    refine w_getR f54_22 (by assumption) rfl (by omega) ?_
    refine w_iloadn f54_25 rfl ?_
    refine w_iloadn f54_26 rfl ?_
    refine w_iload f54_27 rfl ?_
    refine w_iload f54_29 rfl ?_
    refine w_cV f54_31 (Or.inl rfl) rfl (by omega) (okd_of (by assumption)) rfl ⟨Nat.le_of_ble_eq_true rfl, rfl, Nat.le_of_ble_eq_true rfl⟩ (en38 _ _ _ _ _) (s38f hi (by omega) hp (by omega)) (pv38 _ _) ?_
    refine w_ret f54_34 rfl ?_
    exact ⟨_, ⟨hF, fun x y z1 z2 => rfl⟩, rfl⟩
theorem l51i {h0 : Nat → Nat → Int} {k : Nat} {v p : Int} {e : Int × Int × (Nat → Int)} {m : PM} (k0 : 3 < k) (hk : ShRl (KS r d) k) (q : FT h b n e) (hF : FmO k h0 h) (hm : m = .inl e) (hp : h (k + 42) 0 = p) (hp0 : 0 ≤ p) : Rn (ev 51 233 [AR k, AR 2] [AI v, AR 2, AR k] (KS r d, h, R)) (RdQ r d R h0 b n k m) := by
  have hk1 := hk
  have k2 := @kd_2 r d
  obtain ⟨k1, -⟩ := hk
  refine w_qV f51_233 (Or.inl rfl) rfl (by omega) (okd_of (by assumption)) rfl ⟨Nat.le_of_ble_eq_true rfl, rfl, Nat.le_of_ble_eq_true rfl⟩ (en54 _ _ _) (x54F hk1 k0 q hp hp0) (fun o9 ho9 => ?_)
  obtain ⟨h2, ⟨u1, u2⟩, rfl⟩ := ho9
  refine w_bok (pv54 _ _) ?_
  refine w_goto (t := 244) f51_236 (by decide) ?_
  exact l51f k0 u1 (hF.tr u2) hm
theorem n51state {s : PS} (hf : s.1 0 = 10) : mNmd b n 357 0 10 s = err 5 s := if_pos hf
theorem r51state {s : PS} (hf : s.1 0 ≠ 10) : mNmd b n 357 0 10 s = pb (mN b n 357 0 (adv b n s)) (mSem b n) := by
  unfold mNmd mN
  refine (if_neg hf).trans ?_
  rw [pb_assoc]
  refine congrArg (pb _) (funext fun s1 => ?_)
  rw [if_neg (by decide)]
  rfl
theorem n51event {s : PS} (hf : s.1 1 = 8) : mNmd b n 427 1 8 s = err 5 s := if_pos hf
theorem r51event {s : PS} (hf : s.1 1 ≠ 8) : mNmd b n 427 1 8 s = pb (mN b n 427 1 (adv b n s)) (mSem b n) := by
  unfold mNmd mN
  refine (if_neg hf).trans ?_
  rw [pb_assoc]
  refine congrArg (pb _) (funext fun s1 => ?_)
  rw [if_neg (by decide)]
  rfl
theorem n51var {s : PS} (hf : s.1 2 = 3) : mNmd b n 483 2 3 s = err 5 s := if_pos hf
theorem r51var {s : PS} (hf : s.1 2 ≠ 3) : mNmd b n 483 2 3 s = pb (m52 b n (adv b n s)) (mSem b n) := by
  unfold mNmd m52
  refine (if_neg hf).trans ?_
  rw [pb_assoc]
  refine congrArg (pb _) (funext fun s1 => ?_)
  rw [if_pos rfl, pb_assoc, pb_assoc]
  rfl
theorem n51on {s : PS} (hf : s.1 3 = 24) : mTrs b n s = err 5 s := if_pos hf
theorem r51on {s : PS} (hf : s.1 3 ≠ 24) : mTrs b n s = pb (m53 b n (adv b n s)) (mSem b n) := by
  unfold mTrs m53 mWh m53w mDo m53d
  rw [if_neg hf]
  simp only [pb_assoc]
theorem n51always {s : PS} (hf : s.1 4 = 12) : mInv b n 0 s = err 5 s := if_pos hf
theorem r51always {s : PS} (hf : s.1 4 ≠ 12) : mInv b n 0 s = pb (m54 b n (setN (adv b n s) 0 (-1))) (mSem b n) := by
  unfold mInv m54 mIv2
  rw [if_neg hf, if_pos rfl]
  simp only [pb_assoc]
  rfl
theorem n51inside {s : PS} (hf : s.1 4 = 12) : mInv b n 1 s = err 5 s := if_pos hf
theorem r51inside {s : PS} (hf : s.1 4 ≠ 12) : mInv b n 1 s = pb (pb (mKn b n 0 357 0 (setN (adv b n s) 0 (-1))) (fun s => m54 b n s)) (mSem b n) := by
  unfold mInv m54 mIv2
  rw [if_neg hf, if_neg (by decide)]
  simp only [pb_assoc]
  rfl
theorem WFm.hs {s : PS} {m : PM} {s1 : PS} (hW : WFm s.1) (h7 : n ≤ 700) (hT : TR s.2.1) (e1 : mStm b n s = pb m (mSem b n)) (e2 : m = .inr s1) : ∀ s2, mSem b n s1 = .inr s2 → WFb s1.1 := fun s2 z => by
  rw [e2] at e1
  have e3 : mStm b n s = .inr s2 := e1.trans z
  rw [← mSem_w z]
  exact (mStm_W h7 hT hW e3).1
theorem l51state {k : Nat} {s : PS} (hk : ShRl (KS r d) k) (k0 : 3 < k) (hW : WFm s.1) (h7 : n ≤ 700) (hR : RRl h k s.1) (q : GT h b n s.2.1) (z : isW b s.2.1 tx_state = true) : Rn (ev 51 0 [AR k, AR 2] [] (KS r d, h, R)) (RdQ r d R h b n k (mStm b n s)) := by
  have hk1 := hk
  have k2 := @kd_2 r d
  obtain ⟨k1, n1, n2, n3, ni, nv, a0, a1, a2, a3, a4, a5, a6, a7, a8⟩ := hk
  have n11 := n1.1
  have n21 := n2.1
  have n31 := n3.1
  have nv1 := nv.1
  obtain ⟨v0, v1, v2, v3, v4⟩ := hW.1
  obtain ⟨wn0, wn1, wn2⟩ := hW.2.2.1
  have hT := q.1.2.2
  have p0 : h (k + 1) 2 = s.1 0 := hR.1.1.1.1
  have es : mStm b n s = mNmd b n 357 0 10 s := by unfold mStm; rw [if_pos z]
  by_cases hf : s.1 0 = 10
  · rw [es, n51state hf]
    refine w_aloadn f51_0 rfl (by omega) ?_
    refine w_ldc f51_1 ?_
    refine w_cV f51_3 (Or.inl rfl) rfl (by omega) (okd_of (by assumption)) rfl ⟨Nat.le_of_ble_eq_true rfl, rfl, Nat.le_of_ble_eq_true rfl⟩ (en26 _ _) (s26t (t := 9) (l := tx_state) (by decide) rfl q z) (pv26 _ _) ?_
    refine w_if_eq (t := 41) f51_6 (by decide) (fun c1 => by omega) (fun c1 => ?_)
    refine w_aloadn f51_9 rfl (by omega) ?_
    refine w_aloadn f51_10 rfl (by omega) ?_
    refine w_getR f51_11 (by assumption) rfl (by omega) ?_
    refine w_getI f51_14 (by decide) (by assumption) (by (try simp only [hput, hcopy, Nat.reduceEqDiff, Nat.add_left_cancel_iff, Nat.add_right_cancel_iff, Nat.left_eq_add, Nat.add_eq_left, Nat.right_eq_add, Nat.add_eq_right, Nat.reduceAdd, Nat.add_zero, Nat.succ_ne_self, Nat.one_ne_zero, Nat.zero_ne_one, eq_self, and_self, and_true, true_and, and_false, false_and, if_true, if_false, reduceIte, Int.reduceToNat, Int.toNat_natCast, p0]); exact rfl) ?_
    refine w_bipush (v := 10) f51_17 (by decide) ?_
    refine w_ic_ge (t := 26) f51_19 (by decide) (fun c2 => ?_) (fun c2 => by omega)
    refine w_iconst (v := 0) f51_26 (by decide) ?_
    refine w_qV f51_27 (Or.inl rfl) rfl (by omega) (okd_of (by assumption)) rfl ⟨Nat.le_of_ble_eq_true rfl, rfl, Nat.le_of_ble_eq_true rfl⟩ (en29 _ _) (m29f q) (fun o9 ho9 => ?_)
    obtain ⟨h1, ⟨p1, p2⟩, rfl⟩ := ho9
    refine w_bok (pv29 _ _) ?_
    refine w_aloadn f51_30 rfl (by omega) ?_
    refine w_aloadn f51_31 rfl (by omega) ?_
    refine w_getR f51_32 (by assumption) rfl (by omega) ?_
    refine w_cV f51_35 (Or.inl rfl) rfl (by omega) (okd_of (by assumption)) rfl ⟨Nat.le_of_ble_eq_true rfl, rfl, Nat.le_of_ble_eq_true rfl⟩ (en32 _ _) (x32 p1 (fun x y z => rfl)) (pv32 _ _) ?_
    refine w_goto (t := 244) f51_38 (by decide) ?_
    exact l51f k0 p1 p2.m rfl
  · have e1 := r51state (b := b) (n := n) hf
    rw [es, e1]
    refine w_aloadn f51_0 rfl (by omega) ?_
    refine w_ldc f51_1 ?_
    refine w_cV f51_3 (Or.inl rfl) rfl (by omega) (okd_of (by assumption)) rfl ⟨Nat.le_of_ble_eq_true rfl, rfl, Nat.le_of_ble_eq_true rfl⟩ (en26 _ _) (s26t (t := 9) (l := tx_state) (by decide) rfl q z) (pv26 _ _) ?_
    refine w_if_eq (t := 41) f51_6 (by decide) (fun c1 => by omega) (fun c1 => ?_)
    refine w_aloadn f51_9 rfl (by omega) ?_
    refine w_aloadn f51_10 rfl (by omega) ?_
    refine w_getR f51_11 (by assumption) rfl (by omega) ?_
    refine w_getI f51_14 (by decide) (by assumption) (by (try simp only [hput, hcopy, Nat.reduceEqDiff, Nat.add_left_cancel_iff, Nat.add_right_cancel_iff, Nat.left_eq_add, Nat.add_eq_left, Nat.right_eq_add, Nat.add_eq_right, Nat.reduceAdd, Nat.add_zero, Nat.succ_ne_self, Nat.one_ne_zero, Nat.zero_ne_one, eq_self, and_self, and_true, true_and, and_false, false_and, if_true, if_false, reduceIte, Int.reduceToNat, Int.toNat_natCast, p0]); exact rfl) ?_
    refine w_bipush (v := 10) f51_17 (by decide) ?_
    refine w_ic_ge (t := 26) f51_19 (by decide) (fun c2 => by omega) (fun c2 => ?_)
    refine w_iconst (v := 1) f51_22 (by decide) ?_
    refine w_goto (t := 27) f51_23 (by decide) ?_
    refine w_qV f51_27 (Or.inl rfl) rfl (by omega) (okd_of (by assumption)) rfl ⟨Nat.le_of_ble_eq_true rfl, rfl, Nat.le_of_ble_eq_true rfl⟩ (en29 _ _) (m29t (s := s) q (by decide)) (fun o9 ho9 => ?_)
    obtain ⟨h1, ⟨p1, p2⟩, rfl⟩ := ho9
    have R1 := hR.o hW.1 k0 p2
    refine w_bok (pv29 _ _) ?_
    refine w_aloadn f51_30 rfl (by omega) ?_
    refine w_aloadn f51_31 rfl (by omega) ?_
    refine w_getR f51_32 (by assumption) rfl (by omega) ?_
    refine w_qV f51_35 (Or.inl rfl) rfl (by omega) (okd_of (by assumption)) rfl ⟨Nat.le_of_ble_eq_true rfl, rfl, Nat.le_of_ble_eq_true rfl⟩ (en32 _ _) (m32 (s := adv b n s) (m := 10) (Or.inl ⟨rfl, rfl, rfl⟩) n1 (by omega) R1.1.1.1 ⟨v0.1, (show s.1 0 < 10 by omega)⟩ (fun i hi => (wn0 i (by omega) hi).2) p1) (fun o9 ho9 => ?_)
    rcases ho9 with ⟨s1, h2, ⟨b1, b2, b3, b4⟩, rfl⟩ | ⟨e, h2, ⟨b1, b2, b3⟩, rfl⟩
    rotate_left
    · refine w_bok (pv32 _ _) ?_
      refine w_goto (t := 244) f51_38 (by decide) ?_
      exact l51f k0 b2 (p2.m.tr b3.m) (by unfold mN; rw [b1]; rfl)
    refine w_bok (pv32 _ _) ?_
    refine w_goto (t := 244) f51_38 (by decide) ?_
    have m1 := mNew_t b1
    have eb : mN b n 357 0 (adv b n s) = .inr (udI s1.1 0 (s1.1 0 + 1), s1.2.1, s1.2.2) := by unfold mN; rw [b1]; rfl
    have ea : udI s1.1 0 (s1.1 0 + 1) = addW s.1 357 0 b (adv b n s).2.1 := by rw [m1.2.1]; exact na_c (m := 10) (c := 0) (Or.inl ⟨rfl, rfl, rfl⟩) v0.1
    rw [eb]
    exact l51g (s1 := (udI s1.1 0 (s1.1 0 + 1), s1.2.1, s1.2.2)) k0 b2 (by show RRl _ k (udI s1.1 0 (s1.1 0 + 1)); rw [ea]; exact R1.n0 hW (show s.1 0 < 10 by omega) k0 b4 b3) (p2.m.tr (b4.m (by omega) (by omega))) rfl (hW.hs h7 hT (es.trans e1) eb)
theorem l51event {k : Nat} {s : PS} (hk : ShRl (KS r d) k) (k0 : 3 < k) (hW : WFm s.1) (h7 : n ≤ 700) (hR : RRl h k s.1) (q : GT h b n s.2.1) (z0 : ¬ isW b s.2.1 tx_state = true) (z : isW b s.2.1 tx_event = true) : Rn (ev 51 0 [AR k, AR 2] [] (KS r d, h, R)) (RdQ r d R h b n k (mStm b n s)) := by
  have hk1 := hk
  have k2 := @kd_2 r d
  obtain ⟨k1, n1, n2, n3, ni, nv, a0, a1, a2, a3, a4, a5, a6, a7, a8⟩ := hk
  have n11 := n1.1
  have n21 := n2.1
  have n31 := n3.1
  have nv1 := nv.1
  obtain ⟨v0, v1, v2, v3, v4⟩ := hW.1
  obtain ⟨wn0, wn1, wn2⟩ := hW.2.2.1
  have hT := q.1.2.2
  have p0 : h (k + 14) 2 = s.1 1 := hR.1.1.2.1.1
  have es : mStm b n s = mNmd b n 427 1 8 s := by unfold mStm; rw [if_neg z0, if_pos z]
  by_cases hf : s.1 1 = 8
  · rw [es, n51event hf]
    refine w_aloadn f51_0 rfl (by omega) ?_
    refine w_ldc f51_1 ?_
    refine w_cV f51_3 (Or.inl rfl) rfl (by omega) (okd_of (by assumption)) rfl ⟨Nat.le_of_ble_eq_true rfl, rfl, Nat.le_of_ble_eq_true rfl⟩ (en26 _ _) (s26n (t := 9) (l := tx_state) (by decide) rfl q z0) (pv26 _ _) ?_
    refine w_if_eq (t := 41) f51_6 (by decide) (fun c1 => ?_) (fun c1 => by omega)
    refine w_aloadn f51_41 rfl (by omega) ?_
    refine w_ldc f51_42 ?_
    refine w_cV f51_44 (Or.inl rfl) rfl (by omega) (okd_of (by assumption)) rfl ⟨Nat.le_of_ble_eq_true rfl, rfl, Nat.le_of_ble_eq_true rfl⟩ (en26 _ _) (s26t (t := 10) (l := tx_event) (by decide) rfl q z) (pv26 _ _) ?_
    refine w_if_eq (t := 82) f51_47 (by decide) (fun c2 => by omega) (fun c2 => ?_)
    refine w_aloadn f51_50 rfl (by omega) ?_
    refine w_aloadn f51_51 rfl (by omega) ?_
    refine w_getR f51_52 (by assumption) rfl (by omega) ?_
    refine w_getI f51_55 (by decide) (by assumption) (by (try simp only [hput, hcopy, Nat.reduceEqDiff, Nat.add_left_cancel_iff, Nat.add_right_cancel_iff, Nat.left_eq_add, Nat.add_eq_left, Nat.right_eq_add, Nat.add_eq_right, Nat.reduceAdd, Nat.add_zero, Nat.succ_ne_self, Nat.one_ne_zero, Nat.zero_ne_one, eq_self, and_self, and_true, true_and, and_false, false_and, if_true, if_false, reduceIte, Int.reduceToNat, Int.toNat_natCast, p0]); exact rfl) ?_
    refine w_bipush (v := 8) f51_58 (by decide) ?_
    refine w_ic_ge (t := 67) f51_60 (by decide) (fun c3 => ?_) (fun c3 => by omega)
    refine w_iconst (v := 0) f51_67 (by decide) ?_
    refine w_qV f51_68 (Or.inl rfl) rfl (by omega) (okd_of (by assumption)) rfl ⟨Nat.le_of_ble_eq_true rfl, rfl, Nat.le_of_ble_eq_true rfl⟩ (en29 _ _) (m29f q) (fun o9 ho9 => ?_)
    obtain ⟨h1, ⟨p1, p2⟩, rfl⟩ := ho9
    refine w_bok (pv29 _ _) ?_
    refine w_aloadn f51_71 rfl (by omega) ?_
    refine w_aloadn f51_72 rfl (by omega) ?_
    refine w_getR f51_73 (by assumption) rfl (by omega) ?_
    refine w_cV f51_76 (Or.inl rfl) rfl (by omega) (okd_of (by assumption)) rfl ⟨Nat.le_of_ble_eq_true rfl, rfl, Nat.le_of_ble_eq_true rfl⟩ (en32 _ _) (x32 p1 (fun x y z => rfl)) (pv32 _ _) ?_
    refine w_goto (t := 244) f51_79 (by decide) ?_
    exact l51f k0 p1 p2.m rfl
  · have e1 := r51event (b := b) (n := n) hf
    rw [es, e1]
    refine w_aloadn f51_0 rfl (by omega) ?_
    refine w_ldc f51_1 ?_
    refine w_cV f51_3 (Or.inl rfl) rfl (by omega) (okd_of (by assumption)) rfl ⟨Nat.le_of_ble_eq_true rfl, rfl, Nat.le_of_ble_eq_true rfl⟩ (en26 _ _) (s26n (t := 9) (l := tx_state) (by decide) rfl q z0) (pv26 _ _) ?_
    refine w_if_eq (t := 41) f51_6 (by decide) (fun c1 => ?_) (fun c1 => by omega)
    refine w_aloadn f51_41 rfl (by omega) ?_
    refine w_ldc f51_42 ?_
    refine w_cV f51_44 (Or.inl rfl) rfl (by omega) (okd_of (by assumption)) rfl ⟨Nat.le_of_ble_eq_true rfl, rfl, Nat.le_of_ble_eq_true rfl⟩ (en26 _ _) (s26t (t := 10) (l := tx_event) (by decide) rfl q z) (pv26 _ _) ?_
    refine w_if_eq (t := 82) f51_47 (by decide) (fun c2 => by omega) (fun c2 => ?_)
    refine w_aloadn f51_50 rfl (by omega) ?_
    refine w_aloadn f51_51 rfl (by omega) ?_
    refine w_getR f51_52 (by assumption) rfl (by omega) ?_
    refine w_getI f51_55 (by decide) (by assumption) (by (try simp only [hput, hcopy, Nat.reduceEqDiff, Nat.add_left_cancel_iff, Nat.add_right_cancel_iff, Nat.left_eq_add, Nat.add_eq_left, Nat.right_eq_add, Nat.add_eq_right, Nat.reduceAdd, Nat.add_zero, Nat.succ_ne_self, Nat.one_ne_zero, Nat.zero_ne_one, eq_self, and_self, and_true, true_and, and_false, false_and, if_true, if_false, reduceIte, Int.reduceToNat, Int.toNat_natCast, p0]); exact rfl) ?_
    refine w_bipush (v := 8) f51_58 (by decide) ?_
    refine w_ic_ge (t := 67) f51_60 (by decide) (fun c3 => by omega) (fun c3 => ?_)
    refine w_iconst (v := 1) f51_63 (by decide) ?_
    refine w_goto (t := 68) f51_64 (by decide) ?_
    refine w_qV f51_68 (Or.inl rfl) rfl (by omega) (okd_of (by assumption)) rfl ⟨Nat.le_of_ble_eq_true rfl, rfl, Nat.le_of_ble_eq_true rfl⟩ (en29 _ _) (m29t (s := s) q (by decide)) (fun o9 ho9 => ?_)
    obtain ⟨h1, ⟨p1, p2⟩, rfl⟩ := ho9
    have R1 := hR.o hW.1 k0 p2
    refine w_bok (pv29 _ _) ?_
    refine w_aloadn f51_71 rfl (by omega) ?_
    refine w_aloadn f51_72 rfl (by omega) ?_
    refine w_getR f51_73 (by assumption) rfl (by omega) ?_
    refine w_qV f51_76 (Or.inl rfl) rfl (by omega) (okd_of (by assumption)) rfl ⟨Nat.le_of_ble_eq_true rfl, rfl, Nat.le_of_ble_eq_true rfl⟩ (en32 _ _) (m32 (s := adv b n s) (m := 8) (Or.inr (Or.inl ⟨rfl, rfl, rfl⟩)) n2 (by omega) R1.1.1.2.1 ⟨v1.1, (show s.1 1 < 8 by omega)⟩ (fun i hi => (wn1 i (by omega) hi).2) p1) (fun o9 ho9 => ?_)
    rcases ho9 with ⟨s1, h2, ⟨b1, b2, b3, b4⟩, rfl⟩ | ⟨e, h2, ⟨b1, b2, b3⟩, rfl⟩
    rotate_left
    · refine w_bok (pv32 _ _) ?_
      refine w_goto (t := 244) f51_79 (by decide) ?_
      exact l51f k0 b2 (p2.m.tr b3.m) (by unfold mN; rw [b1]; rfl)
    refine w_bok (pv32 _ _) ?_
    refine w_goto (t := 244) f51_79 (by decide) ?_
    have m1 := mNew_t b1
    have eb : mN b n 427 1 (adv b n s) = .inr (udI s1.1 1 (s1.1 1 + 1), s1.2.1, s1.2.2) := by unfold mN; rw [b1]; rfl
    have ea : udI s1.1 1 (s1.1 1 + 1) = addW s.1 427 1 b (adv b n s).2.1 := by rw [m1.2.1]; exact na_c (m := 8) (c := 1) (Or.inr (Or.inl ⟨rfl, rfl, rfl⟩)) v1.1
    rw [eb]
    exact l51g (s1 := (udI s1.1 1 (s1.1 1 + 1), s1.2.1, s1.2.2)) k0 b2 (by show RRl _ k (udI s1.1 1 (s1.1 1 + 1)); rw [ea]; exact R1.n1 hW (show s.1 1 < 8 by omega) k0 b4 b3) (p2.m.tr (b4.m (by omega) (by omega))) rfl (hW.hs h7 hT (es.trans e1) eb)
theorem l51var {k : Nat} {s : PS} (hk : ShRl (KS r d) k) (k0 : 3 < k) (hW : WFm s.1) (h7 : n ≤ 700) (hR : RRl h k s.1) (q : GT h b n s.2.1) (z0 : ¬ isW b s.2.1 tx_state = true) (z1 : ¬ isW b s.2.1 tx_event = true) (z : isW b s.2.1 tx_var = true) : Rn (ev 51 0 [AR k, AR 2] [] (KS r d, h, R)) (RdQ r d R h b n k (mStm b n s)) := by
  have hk1 := hk
  have k2 := @kd_2 r d
  obtain ⟨k1, n1, n2, n3, ni, nv, a0, a1, a2, a3, a4, a5, a6, a7, a8⟩ := hk
  have n11 := n1.1
  have n21 := n2.1
  have n31 := n3.1
  have nv1 := nv.1
  obtain ⟨v0, v1, v2, v3, v4⟩ := hW.1
  obtain ⟨wn0, wn1, wn2⟩ := hW.2.2.1
  have hT := q.1.2.2
  have p0 : h (k + 27) 2 = s.1 2 := hR.1.1.2.2.1
  have es : mStm b n s = mNmd b n 483 2 3 s := by unfold mStm; rw [if_neg z0, if_neg z1, if_pos z]
  by_cases hf : s.1 2 = 3
  · rw [es, n51var hf]
    refine w_aloadn f51_0 rfl (by omega) ?_
    refine w_ldc f51_1 ?_
    refine w_cV f51_3 (Or.inl rfl) rfl (by omega) (okd_of (by assumption)) rfl ⟨Nat.le_of_ble_eq_true rfl, rfl, Nat.le_of_ble_eq_true rfl⟩ (en26 _ _) (s26n (t := 9) (l := tx_state) (by decide) rfl q z0) (pv26 _ _) ?_
    refine w_if_eq (t := 41) f51_6 (by decide) (fun c1 => ?_) (fun c1 => by omega)
    refine w_aloadn f51_41 rfl (by omega) ?_
    refine w_ldc f51_42 ?_
    refine w_cV f51_44 (Or.inl rfl) rfl (by omega) (okd_of (by assumption)) rfl ⟨Nat.le_of_ble_eq_true rfl, rfl, Nat.le_of_ble_eq_true rfl⟩ (en26 _ _) (s26n (t := 10) (l := tx_event) (by decide) rfl q z1) (pv26 _ _) ?_
    refine w_if_eq (t := 82) f51_47 (by decide) (fun c2 => ?_) (fun c2 => by omega)
    refine w_aloadn f51_82 rfl (by omega) ?_
    refine w_ldc f51_83 ?_
    refine w_cV f51_85 (Or.inl rfl) rfl (by omega) (okd_of (by assumption)) rfl ⟨Nat.le_of_ble_eq_true rfl, rfl, Nat.le_of_ble_eq_true rfl⟩ (en26 _ _) (s26t (t := 11) (l := tx_var) (by decide) rfl q z) (pv26 _ _) ?_
    refine w_if_eq (t := 119) f51_88 (by decide) (fun c3 => by omega) (fun c3 => ?_)
    refine w_aloadn f51_91 rfl (by omega) ?_
    refine w_aloadn f51_92 rfl (by omega) ?_
    refine w_getR f51_93 (by assumption) rfl (by omega) ?_
    refine w_getI f51_96 (by decide) (by assumption) (by (try simp only [hput, hcopy, Nat.reduceEqDiff, Nat.add_left_cancel_iff, Nat.add_right_cancel_iff, Nat.left_eq_add, Nat.add_eq_left, Nat.right_eq_add, Nat.add_eq_right, Nat.reduceAdd, Nat.add_zero, Nat.succ_ne_self, Nat.one_ne_zero, Nat.zero_ne_one, eq_self, and_self, and_true, true_and, and_false, false_and, if_true, if_false, reduceIte, Int.reduceToNat, Int.toNat_natCast, p0]); exact rfl) ?_
    refine w_iconst (v := 3) f51_99 (by decide) ?_
    refine w_ic_ge (t := 107) f51_100 (by decide) (fun c4 => ?_) (fun c4 => by omega)
    refine w_iconst (v := 0) f51_107 (by decide) ?_
    refine w_qV f51_108 (Or.inl rfl) rfl (by omega) (okd_of (by assumption)) rfl ⟨Nat.le_of_ble_eq_true rfl, rfl, Nat.le_of_ble_eq_true rfl⟩ (en29 _ _) (m29f q) (fun o9 ho9 => ?_)
    obtain ⟨h1, ⟨p1, p2⟩, rfl⟩ := ho9
    refine w_bok (pv29 _ _) ?_
    refine w_aloadn f51_111 rfl (by omega) ?_
    refine w_aloadn f51_112 rfl (by omega) ?_
    refine w_qV f51_113 (Or.inl rfl) rfl (by omega) (okd_of (by assumption)) rfl ⟨Nat.le_of_ble_eq_true rfl, rfl, Nat.le_of_ble_eq_true rfl⟩ (en52 _ _) (x52 hk1 k0 p1 ((p2 _ _ (by omega)).trans p0) (by omega)) (fun o9 ho9 => ?_)
    obtain ⟨h2, ⟨u1, u2⟩, rfl⟩ := ho9
    refine w_bok (pv52 _ _) ?_
    refine w_goto (t := 244) f51_116 (by decide) ?_
    exact l51f k0 u1 (p2.m.tr u2) rfl
  · have e1 := r51var (b := b) (n := n) hf
    rw [es, e1]
    refine w_aloadn f51_0 rfl (by omega) ?_
    refine w_ldc f51_1 ?_
    refine w_cV f51_3 (Or.inl rfl) rfl (by omega) (okd_of (by assumption)) rfl ⟨Nat.le_of_ble_eq_true rfl, rfl, Nat.le_of_ble_eq_true rfl⟩ (en26 _ _) (s26n (t := 9) (l := tx_state) (by decide) rfl q z0) (pv26 _ _) ?_
    refine w_if_eq (t := 41) f51_6 (by decide) (fun c1 => ?_) (fun c1 => by omega)
    refine w_aloadn f51_41 rfl (by omega) ?_
    refine w_ldc f51_42 ?_
    refine w_cV f51_44 (Or.inl rfl) rfl (by omega) (okd_of (by assumption)) rfl ⟨Nat.le_of_ble_eq_true rfl, rfl, Nat.le_of_ble_eq_true rfl⟩ (en26 _ _) (s26n (t := 10) (l := tx_event) (by decide) rfl q z1) (pv26 _ _) ?_
    refine w_if_eq (t := 82) f51_47 (by decide) (fun c2 => ?_) (fun c2 => by omega)
    refine w_aloadn f51_82 rfl (by omega) ?_
    refine w_ldc f51_83 ?_
    refine w_cV f51_85 (Or.inl rfl) rfl (by omega) (okd_of (by assumption)) rfl ⟨Nat.le_of_ble_eq_true rfl, rfl, Nat.le_of_ble_eq_true rfl⟩ (en26 _ _) (s26t (t := 11) (l := tx_var) (by decide) rfl q z) (pv26 _ _) ?_
    refine w_if_eq (t := 119) f51_88 (by decide) (fun c3 => by omega) (fun c3 => ?_)
    refine w_aloadn f51_91 rfl (by omega) ?_
    refine w_aloadn f51_92 rfl (by omega) ?_
    refine w_getR f51_93 (by assumption) rfl (by omega) ?_
    refine w_getI f51_96 (by decide) (by assumption) (by (try simp only [hput, hcopy, Nat.reduceEqDiff, Nat.add_left_cancel_iff, Nat.add_right_cancel_iff, Nat.left_eq_add, Nat.add_eq_left, Nat.right_eq_add, Nat.add_eq_right, Nat.reduceAdd, Nat.add_zero, Nat.succ_ne_self, Nat.one_ne_zero, Nat.zero_ne_one, eq_self, and_self, and_true, true_and, and_false, false_and, if_true, if_false, reduceIte, Int.reduceToNat, Int.toNat_natCast, p0]); exact rfl) ?_
    refine w_iconst (v := 3) f51_99 (by decide) ?_
    refine w_ic_ge (t := 107) f51_100 (by decide) (fun c4 => by omega) (fun c4 => ?_)
    refine w_iconst (v := 1) f51_103 (by decide) ?_
    refine w_goto (t := 108) f51_104 (by decide) ?_
    refine w_qV f51_108 (Or.inl rfl) rfl (by omega) (okd_of (by assumption)) rfl ⟨Nat.le_of_ble_eq_true rfl, rfl, Nat.le_of_ble_eq_true rfl⟩ (en29 _ _) (m29t (s := s) q (by decide)) (fun o9 ho9 => ?_)
    obtain ⟨h1, ⟨p1, p2⟩, rfl⟩ := ho9
    have R1 := hR.o hW.1 k0 p2
    refine w_bok (pv29 _ _) ?_
    refine w_aloadn f51_111 rfl (by omega) ?_
    refine w_aloadn f51_112 rfl (by omega) ?_
    refine w_qV f51_113 (Or.inl rfl) rfl (by omega) (okd_of (by assumption)) rfl ⟨Nat.le_of_ble_eq_true rfl, rfl, Nat.le_of_ble_eq_true rfl⟩ (en52 _ _) (s52 (s := adv b n s) hk1 k0 hW (show s.1 2 < 3 by omega) R1 p1) (fun o9 ho9 => ?_)
    rcases ho9 with ⟨s1, h2, ⟨b1, b2, b3, b4⟩, rfl⟩ | ⟨e, h2, ⟨b1, b2, b3⟩, rfl⟩
    rotate_left
    · refine w_bok (pv52 _ _) ?_
      refine w_goto (t := 244) f51_116 (by decide) ?_
      exact l51f k0 b2 (p2.m.tr b3) (by rw [b1]; rfl)
    refine w_bok (pv52 _ _) ?_
    refine w_goto (t := 244) f51_116 (by decide) ?_
    rw [b1]
    exact l51g k0 b2 b3 (p2.m.tr b4) rfl (hW.hs h7 hT (es.trans e1) b1)
theorem l51on {k : Nat} {s : PS} (hk : ShRl (KS r d) k) (k0 : 3 < k) (hW : WFm s.1) (h7 : n ≤ 700) (hR : RRl h k s.1) (q : GT h b n s.2.1) (z0 : ¬ isW b s.2.1 tx_state = true) (z1 : ¬ isW b s.2.1 tx_event = true) (z2 : ¬ isW b s.2.1 tx_var = true) (z : isW b s.2.1 tx_on = true) : Rn (ev 51 0 [AR k, AR 2] [] (KS r d, h, R)) (RdQ r d R h b n k (mStm b n s)) := by
  have hk1 := hk
  have k2 := @kd_2 r d
  obtain ⟨k1, n1, n2, n3, ni, nv, a0, a1, a2, a3, a4, a5, a6, a7, a8⟩ := hk
  have n11 := n1.1
  have n21 := n2.1
  have n31 := n3.1
  have nv1 := nv.1
  obtain ⟨v0, v1, v2, v3, v4⟩ := hW.1
  obtain ⟨wn0, wn1, wn2⟩ := hW.2.2.1
  have hT := q.1.2.2
  have p0 : h k 5 = s.1 3 := hR.2.1
  have es : mStm b n s = mTrs b n s := by unfold mStm; rw [if_neg z0, if_neg z1, if_neg z2, if_pos z]
  by_cases hf : s.1 3 = 24
  · rw [es, n51on hf]
    refine w_aloadn f51_0 rfl (by omega) ?_
    refine w_ldc f51_1 ?_
    refine w_cV f51_3 (Or.inl rfl) rfl (by omega) (okd_of (by assumption)) rfl ⟨Nat.le_of_ble_eq_true rfl, rfl, Nat.le_of_ble_eq_true rfl⟩ (en26 _ _) (s26n (t := 9) (l := tx_state) (by decide) rfl q z0) (pv26 _ _) ?_
    refine w_if_eq (t := 41) f51_6 (by decide) (fun c1 => ?_) (fun c1 => by omega)
    refine w_aloadn f51_41 rfl (by omega) ?_
    refine w_ldc f51_42 ?_
    refine w_cV f51_44 (Or.inl rfl) rfl (by omega) (okd_of (by assumption)) rfl ⟨Nat.le_of_ble_eq_true rfl, rfl, Nat.le_of_ble_eq_true rfl⟩ (en26 _ _) (s26n (t := 10) (l := tx_event) (by decide) rfl q z1) (pv26 _ _) ?_
    refine w_if_eq (t := 82) f51_47 (by decide) (fun c2 => ?_) (fun c2 => by omega)
    refine w_aloadn f51_82 rfl (by omega) ?_
    refine w_ldc f51_83 ?_
    refine w_cV f51_85 (Or.inl rfl) rfl (by omega) (okd_of (by assumption)) rfl ⟨Nat.le_of_ble_eq_true rfl, rfl, Nat.le_of_ble_eq_true rfl⟩ (en26 _ _) (s26n (t := 11) (l := tx_var) (by decide) rfl q z2) (pv26 _ _) ?_
    refine w_if_eq (t := 119) f51_88 (by decide) (fun c3 => ?_) (fun c3 => by omega)
    refine w_aloadn f51_119 rfl (by omega) ?_
    refine w_ldc f51_120 ?_
    refine w_cV f51_122 (Or.inl rfl) rfl (by omega) (okd_of (by assumption)) rfl ⟨Nat.le_of_ble_eq_true rfl, rfl, Nat.le_of_ble_eq_true rfl⟩ (en26 _ _) (s26t (t := 12) (l := tx_on) (by decide) rfl q z) (pv26 _ _) ?_
    refine w_if_eq (t := 154) f51_125 (by decide) (fun c4 => by omega) (fun c4 => ?_)
    refine w_aloadn f51_128 rfl (by omega) ?_
    refine w_aloadn f51_129 rfl (by omega) ?_
    refine w_getI f51_130 (by decide) (by assumption) (by (try simp only [hput, hcopy, Nat.reduceEqDiff, Nat.add_left_cancel_iff, Nat.add_right_cancel_iff, Nat.left_eq_add, Nat.add_eq_left, Nat.right_eq_add, Nat.add_eq_right, Nat.reduceAdd, Nat.add_zero, Nat.succ_ne_self, Nat.one_ne_zero, Nat.zero_ne_one, eq_self, and_self, and_true, true_and, and_false, false_and, if_true, if_false, reduceIte, Int.reduceToNat, Int.toNat_natCast, p0]); exact rfl) ?_
    refine w_bipush (v := 24) f51_133 (by decide) ?_
    refine w_ic_ge (t := 142) f51_135 (by decide) (fun c5 => ?_) (fun c5 => by omega)
    refine w_iconst (v := 0) f51_142 (by decide) ?_
    refine w_qV f51_143 (Or.inl rfl) rfl (by omega) (okd_of (by assumption)) rfl ⟨Nat.le_of_ble_eq_true rfl, rfl, Nat.le_of_ble_eq_true rfl⟩ (en29 _ _) (m29f q) (fun o9 ho9 => ?_)
    obtain ⟨h1, ⟨p1, p2⟩, rfl⟩ := ho9
    refine w_bok (pv29 _ _) ?_
    refine w_aloadn f51_146 rfl (by omega) ?_
    refine w_aloadn f51_147 rfl (by omega) ?_
    refine w_qV f51_148 (Or.inl rfl) rfl (by omega) (okd_of (by assumption)) rfl ⟨Nat.le_of_ble_eq_true rfl, rfl, Nat.le_of_ble_eq_true rfl⟩ (en53 _ _) (x53 hk1 k0 p1 ((p2 _ _ (by omega)).trans p0) (by omega)) (fun o9 ho9 => ?_)
    obtain ⟨h2, ⟨u1, u2⟩, rfl⟩ := ho9
    refine w_bok (pv53 _ _) ?_
    refine w_goto (t := 244) f51_151 (by decide) ?_
    exact l51f k0 u1 (p2.m.tr u2) rfl
  · have e1 := r51on (b := b) (n := n) hf
    rw [es, e1]
    refine w_aloadn f51_0 rfl (by omega) ?_
    refine w_ldc f51_1 ?_
    refine w_cV f51_3 (Or.inl rfl) rfl (by omega) (okd_of (by assumption)) rfl ⟨Nat.le_of_ble_eq_true rfl, rfl, Nat.le_of_ble_eq_true rfl⟩ (en26 _ _) (s26n (t := 9) (l := tx_state) (by decide) rfl q z0) (pv26 _ _) ?_
    refine w_if_eq (t := 41) f51_6 (by decide) (fun c1 => ?_) (fun c1 => by omega)
    refine w_aloadn f51_41 rfl (by omega) ?_
    refine w_ldc f51_42 ?_
    refine w_cV f51_44 (Or.inl rfl) rfl (by omega) (okd_of (by assumption)) rfl ⟨Nat.le_of_ble_eq_true rfl, rfl, Nat.le_of_ble_eq_true rfl⟩ (en26 _ _) (s26n (t := 10) (l := tx_event) (by decide) rfl q z1) (pv26 _ _) ?_
    refine w_if_eq (t := 82) f51_47 (by decide) (fun c2 => ?_) (fun c2 => by omega)
    refine w_aloadn f51_82 rfl (by omega) ?_
    refine w_ldc f51_83 ?_
    refine w_cV f51_85 (Or.inl rfl) rfl (by omega) (okd_of (by assumption)) rfl ⟨Nat.le_of_ble_eq_true rfl, rfl, Nat.le_of_ble_eq_true rfl⟩ (en26 _ _) (s26n (t := 11) (l := tx_var) (by decide) rfl q z2) (pv26 _ _) ?_
    refine w_if_eq (t := 119) f51_88 (by decide) (fun c3 => ?_) (fun c3 => by omega)
    refine w_aloadn f51_119 rfl (by omega) ?_
    refine w_ldc f51_120 ?_
    refine w_cV f51_122 (Or.inl rfl) rfl (by omega) (okd_of (by assumption)) rfl ⟨Nat.le_of_ble_eq_true rfl, rfl, Nat.le_of_ble_eq_true rfl⟩ (en26 _ _) (s26t (t := 12) (l := tx_on) (by decide) rfl q z) (pv26 _ _) ?_
    refine w_if_eq (t := 154) f51_125 (by decide) (fun c4 => by omega) (fun c4 => ?_)
    refine w_aloadn f51_128 rfl (by omega) ?_
    refine w_aloadn f51_129 rfl (by omega) ?_
    refine w_getI f51_130 (by decide) (by assumption) (by (try simp only [hput, hcopy, Nat.reduceEqDiff, Nat.add_left_cancel_iff, Nat.add_right_cancel_iff, Nat.left_eq_add, Nat.add_eq_left, Nat.right_eq_add, Nat.add_eq_right, Nat.reduceAdd, Nat.add_zero, Nat.succ_ne_self, Nat.one_ne_zero, Nat.zero_ne_one, eq_self, and_self, and_true, true_and, and_false, false_and, if_true, if_false, reduceIte, Int.reduceToNat, Int.toNat_natCast, p0]); exact rfl) ?_
    refine w_bipush (v := 24) f51_133 (by decide) ?_
    refine w_ic_ge (t := 142) f51_135 (by decide) (fun c5 => by omega) (fun c5 => ?_)
    refine w_iconst (v := 1) f51_138 (by decide) ?_
    refine w_goto (t := 143) f51_139 (by decide) ?_
    refine w_qV f51_143 (Or.inl rfl) rfl (by omega) (okd_of (by assumption)) rfl ⟨Nat.le_of_ble_eq_true rfl, rfl, Nat.le_of_ble_eq_true rfl⟩ (en29 _ _) (m29t (s := s) q (by decide)) (fun o9 ho9 => ?_)
    obtain ⟨h1, ⟨p1, p2⟩, rfl⟩ := ho9
    have R1 := hR.o hW.1 k0 p2
    refine w_bok (pv29 _ _) ?_
    refine w_aloadn f51_146 rfl (by omega) ?_
    refine w_aloadn f51_147 rfl (by omega) ?_
    refine w_qV f51_148 (Or.inl rfl) rfl (by omega) (okd_of (by assumption)) rfl ⟨Nat.le_of_ble_eq_true rfl, rfl, Nat.le_of_ble_eq_true rfl⟩ (en53 _ _) (s53 (s := adv b n s) hk1 k0 hW (show s.1 3 < 24 by omega) R1 p1) (fun o9 ho9 => ?_)
    rcases ho9 with ⟨s1, h2, ⟨b1, b2, b3, b4⟩, rfl⟩ | ⟨e, h2, ⟨b1, b2, b3⟩, rfl⟩
    rotate_left
    · refine w_bok (pv53 _ _) ?_
      refine w_goto (t := 244) f51_151 (by decide) ?_
      exact l51f k0 b2 (p2.m.tr b3) (by rw [b1]; rfl)
    refine w_bok (pv53 _ _) ?_
    refine w_goto (t := 244) f51_151 (by decide) ?_
    rw [b1]
    exact l51g k0 b2 b3 (p2.m.tr b4) rfl (hW.hs h7 hT (es.trans e1) b1)
theorem l51always {k : Nat} {s : PS} (hk : ShRl (KS r d) k) (k0 : 3 < k) (hW : WFm s.1) (h7 : n ≤ 700) (hR : RRl h k s.1) (q : GT h b n s.2.1) (z0 : ¬ isW b s.2.1 tx_state = true) (z1 : ¬ isW b s.2.1 tx_event = true) (z2 : ¬ isW b s.2.1 tx_var = true) (z3 : ¬ isW b s.2.1 tx_on = true) (z : isW b s.2.1 tx_always = true) : Rn (ev 51 0 [AR k, AR 2] [] (KS r d, h, R)) (RdQ r d R h b n k (mStm b n s)) := by
  have hk1 := hk
  have k2 := @kd_2 r d
  obtain ⟨k1, n1, n2, n3, ni, nv, a0, a1, a2, a3, a4, a5, a6, a7, a8⟩ := hk
  have n11 := n1.1
  have n21 := n2.1
  have n31 := n3.1
  have nv1 := nv.1
  obtain ⟨v0, v1, v2, v3, v4⟩ := hW.1
  obtain ⟨wn0, wn1, wn2⟩ := hW.2.2.1
  have hT := q.1.2.2
  have p0 : h (k + 42) 0 = s.1 4 := hR.1.2.2.1
  have es : mStm b n s = mInv b n 0 s := by unfold mStm; rw [if_neg z0, if_neg z1, if_neg z2, if_neg z3, if_pos z]
  by_cases hf : s.1 4 = 12
  · rw [es, n51always hf]
    refine w_aloadn f51_0 rfl (by omega) ?_
    refine w_ldc f51_1 ?_
    refine w_cV f51_3 (Or.inl rfl) rfl (by omega) (okd_of (by assumption)) rfl ⟨Nat.le_of_ble_eq_true rfl, rfl, Nat.le_of_ble_eq_true rfl⟩ (en26 _ _) (s26n (t := 9) (l := tx_state) (by decide) rfl q z0) (pv26 _ _) ?_
    refine w_if_eq (t := 41) f51_6 (by decide) (fun c1 => ?_) (fun c1 => by omega)
    refine w_aloadn f51_41 rfl (by omega) ?_
    refine w_ldc f51_42 ?_
    refine w_cV f51_44 (Or.inl rfl) rfl (by omega) (okd_of (by assumption)) rfl ⟨Nat.le_of_ble_eq_true rfl, rfl, Nat.le_of_ble_eq_true rfl⟩ (en26 _ _) (s26n (t := 10) (l := tx_event) (by decide) rfl q z1) (pv26 _ _) ?_
    refine w_if_eq (t := 82) f51_47 (by decide) (fun c2 => ?_) (fun c2 => by omega)
    refine w_aloadn f51_82 rfl (by omega) ?_
    refine w_ldc f51_83 ?_
    refine w_cV f51_85 (Or.inl rfl) rfl (by omega) (okd_of (by assumption)) rfl ⟨Nat.le_of_ble_eq_true rfl, rfl, Nat.le_of_ble_eq_true rfl⟩ (en26 _ _) (s26n (t := 11) (l := tx_var) (by decide) rfl q z2) (pv26 _ _) ?_
    refine w_if_eq (t := 119) f51_88 (by decide) (fun c3 => ?_) (fun c3 => by omega)
    refine w_aloadn f51_119 rfl (by omega) ?_
    refine w_ldc f51_120 ?_
    refine w_cV f51_122 (Or.inl rfl) rfl (by omega) (okd_of (by assumption)) rfl ⟨Nat.le_of_ble_eq_true rfl, rfl, Nat.le_of_ble_eq_true rfl⟩ (en26 _ _) (s26n (t := 12) (l := tx_on) (by decide) rfl q z3) (pv26 _ _) ?_
    refine w_if_eq (t := 154) f51_125 (by decide) (fun c4 => ?_) (fun c4 => by omega)
    refine w_aloadn f51_154 rfl (by omega) ?_
    refine w_ldc f51_155 ?_
    refine w_cV f51_157 (Or.inl rfl) rfl (by omega) (okd_of (by assumption)) rfl ⟨Nat.le_of_ble_eq_true rfl, rfl, Nat.le_of_ble_eq_true rfl⟩ (en26 _ _) (s26t (t := 13) (l := tx_always) (by decide) rfl q z) (pv26 _ _) ?_
    refine w_if_eq (t := 193) f51_160 (by decide) (fun c5 => by omega) (fun c5 => ?_)
    refine w_aloadn f51_163 rfl (by omega) ?_
    refine w_aloadn f51_164 rfl (by omega) ?_
    refine w_getR f51_165 (by assumption) rfl (by omega) ?_
    refine w_getI f51_168 (by decide) (by assumption) (by (try simp only [hput, hcopy, Nat.reduceEqDiff, Nat.add_left_cancel_iff, Nat.add_right_cancel_iff, Nat.left_eq_add, Nat.add_eq_left, Nat.right_eq_add, Nat.add_eq_right, Nat.reduceAdd, Nat.add_zero, Nat.succ_ne_self, Nat.one_ne_zero, Nat.zero_ne_one, eq_self, and_self, and_true, true_and, and_false, false_and, if_true, if_false, reduceIte, Int.reduceToNat, Int.toNat_natCast, p0]); exact rfl) ?_
    refine w_bipush (v := 12) f51_171 (by decide) ?_
    refine w_ic_ge (t := 180) f51_173 (by decide) (fun c6 => ?_) (fun c6 => by omega)
    refine w_iconst (v := 0) f51_180 (by decide) ?_
    refine w_qV f51_181 (Or.inl rfl) rfl (by omega) (okd_of (by assumption)) rfl ⟨Nat.le_of_ble_eq_true rfl, rfl, Nat.le_of_ble_eq_true rfl⟩ (en29 _ _) (m29f q) (fun o9 ho9 => ?_)
    obtain ⟨h1, ⟨p1, p2⟩, rfl⟩ := ho9
    refine w_bok (pv29 _ _) ?_
    refine w_aloadn f51_184 rfl (by omega) ?_
    refine w_aloadn f51_185 rfl (by omega) ?_
    refine w_iconst (v := -1) f51_186 (by decide) ?_
    refine w_qV f51_187 (Or.inl rfl) rfl (by omega) (okd_of (by assumption)) rfl ⟨Nat.le_of_ble_eq_true rfl, rfl, Nat.le_of_ble_eq_true rfl⟩ (en54 _ _ _) (x54F hk1 k0 p1 ((p2 _ _ (by omega)).trans p0) (by omega)) (fun o9 ho9 => ?_)
    obtain ⟨h2, ⟨u1, u2⟩, rfl⟩ := ho9
    refine w_bok (pv54 _ _) ?_
    refine w_goto (t := 244) f51_190 (by decide) ?_
    exact l51f k0 u1 (p2.m.tr u2) rfl
  · have e1 := r51always (b := b) (n := n) hf
    rw [es, e1]
    refine w_aloadn f51_0 rfl (by omega) ?_
    refine w_ldc f51_1 ?_
    refine w_cV f51_3 (Or.inl rfl) rfl (by omega) (okd_of (by assumption)) rfl ⟨Nat.le_of_ble_eq_true rfl, rfl, Nat.le_of_ble_eq_true rfl⟩ (en26 _ _) (s26n (t := 9) (l := tx_state) (by decide) rfl q z0) (pv26 _ _) ?_
    refine w_if_eq (t := 41) f51_6 (by decide) (fun c1 => ?_) (fun c1 => by omega)
    refine w_aloadn f51_41 rfl (by omega) ?_
    refine w_ldc f51_42 ?_
    refine w_cV f51_44 (Or.inl rfl) rfl (by omega) (okd_of (by assumption)) rfl ⟨Nat.le_of_ble_eq_true rfl, rfl, Nat.le_of_ble_eq_true rfl⟩ (en26 _ _) (s26n (t := 10) (l := tx_event) (by decide) rfl q z1) (pv26 _ _) ?_
    refine w_if_eq (t := 82) f51_47 (by decide) (fun c2 => ?_) (fun c2 => by omega)
    refine w_aloadn f51_82 rfl (by omega) ?_
    refine w_ldc f51_83 ?_
    refine w_cV f51_85 (Or.inl rfl) rfl (by omega) (okd_of (by assumption)) rfl ⟨Nat.le_of_ble_eq_true rfl, rfl, Nat.le_of_ble_eq_true rfl⟩ (en26 _ _) (s26n (t := 11) (l := tx_var) (by decide) rfl q z2) (pv26 _ _) ?_
    refine w_if_eq (t := 119) f51_88 (by decide) (fun c3 => ?_) (fun c3 => by omega)
    refine w_aloadn f51_119 rfl (by omega) ?_
    refine w_ldc f51_120 ?_
    refine w_cV f51_122 (Or.inl rfl) rfl (by omega) (okd_of (by assumption)) rfl ⟨Nat.le_of_ble_eq_true rfl, rfl, Nat.le_of_ble_eq_true rfl⟩ (en26 _ _) (s26n (t := 12) (l := tx_on) (by decide) rfl q z3) (pv26 _ _) ?_
    refine w_if_eq (t := 154) f51_125 (by decide) (fun c4 => ?_) (fun c4 => by omega)
    refine w_aloadn f51_154 rfl (by omega) ?_
    refine w_ldc f51_155 ?_
    refine w_cV f51_157 (Or.inl rfl) rfl (by omega) (okd_of (by assumption)) rfl ⟨Nat.le_of_ble_eq_true rfl, rfl, Nat.le_of_ble_eq_true rfl⟩ (en26 _ _) (s26t (t := 13) (l := tx_always) (by decide) rfl q z) (pv26 _ _) ?_
    refine w_if_eq (t := 193) f51_160 (by decide) (fun c5 => by omega) (fun c5 => ?_)
    refine w_aloadn f51_163 rfl (by omega) ?_
    refine w_aloadn f51_164 rfl (by omega) ?_
    refine w_getR f51_165 (by assumption) rfl (by omega) ?_
    refine w_getI f51_168 (by decide) (by assumption) (by (try simp only [hput, hcopy, Nat.reduceEqDiff, Nat.add_left_cancel_iff, Nat.add_right_cancel_iff, Nat.left_eq_add, Nat.add_eq_left, Nat.right_eq_add, Nat.add_eq_right, Nat.reduceAdd, Nat.add_zero, Nat.succ_ne_self, Nat.one_ne_zero, Nat.zero_ne_one, eq_self, and_self, and_true, true_and, and_false, false_and, if_true, if_false, reduceIte, Int.reduceToNat, Int.toNat_natCast, p0]); exact rfl) ?_
    refine w_bipush (v := 12) f51_171 (by decide) ?_
    refine w_ic_ge (t := 180) f51_173 (by decide) (fun c6 => by omega) (fun c6 => ?_)
    refine w_iconst (v := 1) f51_176 (by decide) ?_
    refine w_goto (t := 181) f51_177 (by decide) ?_
    refine w_qV f51_181 (Or.inl rfl) rfl (by omega) (okd_of (by assumption)) rfl ⟨Nat.le_of_ble_eq_true rfl, rfl, Nat.le_of_ble_eq_true rfl⟩ (en29 _ _) (m29t (s := s) q (by decide)) (fun o9 ho9 => ?_)
    obtain ⟨h1, ⟨p1, p2⟩, rfl⟩ := ho9
    have R1 := hR.o hW.1 k0 p2
    refine w_bok (pv29 _ _) ?_
    refine w_aloadn f51_184 rfl (by omega) ?_
    refine w_aloadn f51_185 rfl (by omega) ?_
    refine w_iconst (v := -1) f51_186 (by decide) ?_
    refine w_qV f51_187 (Or.inl rfl) rfl (by omega) (okd_of (by assumption)) rfl ⟨Nat.le_of_ble_eq_true rfl, rfl, Nat.le_of_ble_eq_true rfl⟩ (en54 _ _ _) (s54 (s := setN (adv b n s) 0 (-1)) hk1 k0 hW (show s.1 4 < 12 by omega) R1 p1 rfl) (fun o9 ho9 => ?_)
    rcases ho9 with ⟨s1, h2, ⟨b1, b2, b3, b4⟩, rfl⟩ | ⟨e, h2, ⟨b1, b2, b3⟩, rfl⟩
    rotate_left
    · refine w_bok (pv54 _ _) ?_
      refine w_goto (t := 244) f51_190 (by decide) ?_
      exact l51f k0 b2 (p2.m.tr b3) (by rw [b1]; rfl)
    refine w_bok (pv54 _ _) ?_
    refine w_goto (t := 244) f51_190 (by decide) ?_
    rw [b1]
    exact l51g k0 b2 b3 (p2.m.tr b4) rfl (hW.hs h7 hT (es.trans e1) b1)
theorem l51inside {k : Nat} {s : PS} (hk : ShRl (KS r d) k) (k0 : 3 < k) (hW : WFm s.1) (h7 : n ≤ 700) (hR : RRl h k s.1) (q : GT h b n s.2.1) (z0 : ¬ isW b s.2.1 tx_state = true) (z1 : ¬ isW b s.2.1 tx_event = true) (z2 : ¬ isW b s.2.1 tx_var = true) (z3 : ¬ isW b s.2.1 tx_on = true) (z4 : ¬ isW b s.2.1 tx_always = true) (z : isW b s.2.1 tx_inside = true) : Rn (ev 51 0 [AR k, AR 2] [] (KS r d, h, R)) (RdQ r d R h b n k (mStm b n s)) := by
  have hk1 := hk
  have k2 := @kd_2 r d
  obtain ⟨k1, n1, n2, n3, ni, nv, a0, a1, a2, a3, a4, a5, a6, a7, a8⟩ := hk
  have n11 := n1.1
  have n21 := n2.1
  have n31 := n3.1
  have nv1 := nv.1
  obtain ⟨v0, v1, v2, v3, v4⟩ := hW.1
  obtain ⟨wn0, wn1, wn2⟩ := hW.2.2.1
  have hT := q.1.2.2
  have p0 : h (k + 42) 0 = s.1 4 := hR.1.2.2.1
  have es : mStm b n s = mInv b n 1 s := by unfold mStm; rw [if_neg z0, if_neg z1, if_neg z2, if_neg z3, if_neg z4, if_pos z]
  by_cases hf : s.1 4 = 12
  · rw [es, n51inside hf]
    refine w_aloadn f51_0 rfl (by omega) ?_
    refine w_ldc f51_1 ?_
    refine w_cV f51_3 (Or.inl rfl) rfl (by omega) (okd_of (by assumption)) rfl ⟨Nat.le_of_ble_eq_true rfl, rfl, Nat.le_of_ble_eq_true rfl⟩ (en26 _ _) (s26n (t := 9) (l := tx_state) (by decide) rfl q z0) (pv26 _ _) ?_
    refine w_if_eq (t := 41) f51_6 (by decide) (fun c1 => ?_) (fun c1 => by omega)
    refine w_aloadn f51_41 rfl (by omega) ?_
    refine w_ldc f51_42 ?_
    refine w_cV f51_44 (Or.inl rfl) rfl (by omega) (okd_of (by assumption)) rfl ⟨Nat.le_of_ble_eq_true rfl, rfl, Nat.le_of_ble_eq_true rfl⟩ (en26 _ _) (s26n (t := 10) (l := tx_event) (by decide) rfl q z1) (pv26 _ _) ?_
    refine w_if_eq (t := 82) f51_47 (by decide) (fun c2 => ?_) (fun c2 => by omega)
    refine w_aloadn f51_82 rfl (by omega) ?_
    refine w_ldc f51_83 ?_
    refine w_cV f51_85 (Or.inl rfl) rfl (by omega) (okd_of (by assumption)) rfl ⟨Nat.le_of_ble_eq_true rfl, rfl, Nat.le_of_ble_eq_true rfl⟩ (en26 _ _) (s26n (t := 11) (l := tx_var) (by decide) rfl q z2) (pv26 _ _) ?_
    refine w_if_eq (t := 119) f51_88 (by decide) (fun c3 => ?_) (fun c3 => by omega)
    refine w_aloadn f51_119 rfl (by omega) ?_
    refine w_ldc f51_120 ?_
    refine w_cV f51_122 (Or.inl rfl) rfl (by omega) (okd_of (by assumption)) rfl ⟨Nat.le_of_ble_eq_true rfl, rfl, Nat.le_of_ble_eq_true rfl⟩ (en26 _ _) (s26n (t := 12) (l := tx_on) (by decide) rfl q z3) (pv26 _ _) ?_
    refine w_if_eq (t := 154) f51_125 (by decide) (fun c4 => ?_) (fun c4 => by omega)
    refine w_aloadn f51_154 rfl (by omega) ?_
    refine w_ldc f51_155 ?_
    refine w_cV f51_157 (Or.inl rfl) rfl (by omega) (okd_of (by assumption)) rfl ⟨Nat.le_of_ble_eq_true rfl, rfl, Nat.le_of_ble_eq_true rfl⟩ (en26 _ _) (s26n (t := 13) (l := tx_always) (by decide) rfl q z4) (pv26 _ _) ?_
    refine w_if_eq (t := 193) f51_160 (by decide) (fun c5 => ?_) (fun c5 => by omega)
    refine w_aloadn f51_193 rfl (by omega) ?_
    refine w_ldc f51_194 ?_
    refine w_cV f51_196 (Or.inl rfl) rfl (by omega) (okd_of (by assumption)) rfl ⟨Nat.le_of_ble_eq_true rfl, rfl, Nat.le_of_ble_eq_true rfl⟩ (en26 _ _) (s26t (t := 14) (l := tx_inside) (by decide) rfl q z) (pv26 _ _) ?_
    refine w_if_eq (t := 239) f51_199 (by decide) (fun c6 => by omega) (fun c6 => ?_)
    refine w_aloadn f51_202 rfl (by omega) ?_
    refine w_aloadn f51_203 rfl (by omega) ?_
    refine w_getR f51_204 (by assumption) rfl (by omega) ?_
    refine w_getI f51_207 (by decide) (by assumption) (by (try simp only [hput, hcopy, Nat.reduceEqDiff, Nat.add_left_cancel_iff, Nat.add_right_cancel_iff, Nat.left_eq_add, Nat.add_eq_left, Nat.right_eq_add, Nat.add_eq_right, Nat.reduceAdd, Nat.add_zero, Nat.succ_ne_self, Nat.one_ne_zero, Nat.zero_ne_one, eq_self, and_self, and_true, true_and, and_false, false_and, if_true, if_false, reduceIte, Int.reduceToNat, Int.toNat_natCast, p0]); exact rfl) ?_
    refine w_bipush (v := 12) f51_210 (by decide) ?_
    refine w_ic_ge (t := 219) f51_212 (by decide) (fun c7 => ?_) (fun c7 => by omega)
    refine w_iconst (v := 0) f51_219 (by decide) ?_
    refine w_qV f51_220 (Or.inl rfl) rfl (by omega) (okd_of (by assumption)) rfl ⟨Nat.le_of_ble_eq_true rfl, rfl, Nat.le_of_ble_eq_true rfl⟩ (en29 _ _) (m29f q) (fun o9 ho9 => ?_)
    obtain ⟨h1, ⟨p1, p2⟩, rfl⟩ := ho9
    refine w_bok (pv29 _ _) ?_
    refine w_aloadn f51_223 rfl (by omega) ?_
    refine w_aloadn f51_224 rfl (by omega) ?_
    refine w_aloadn f51_225 rfl (by omega) ?_
    refine w_aloadn f51_226 rfl (by omega) ?_
    refine w_getR f51_227 (by assumption) rfl (by omega) ?_
    refine w_cV f51_230 (Or.inl rfl) rfl (by omega) (okd_of (by assumption)) rfl ⟨Nat.le_of_ble_eq_true rfl, rfl, Nat.le_of_ble_eq_true rfl⟩ (en33 _ _) (x33 p1 (fun x y z => rfl)) (pv33 _ _) ?_
    refine w_qV f51_233 (Or.inl rfl) rfl (by omega) (okd_of (by assumption)) rfl ⟨Nat.le_of_ble_eq_true rfl, rfl, Nat.le_of_ble_eq_true rfl⟩ (en54 _ _ _) (x54F hk1 k0 p1 ((p2 _ _ (by omega)).trans p0) (by omega)) (fun o9 ho9 => ?_)
    obtain ⟨h2, ⟨u1, u2⟩, rfl⟩ := ho9
    refine w_bok (pv54 _ _) ?_
    refine w_goto (t := 244) f51_236 (by decide) ?_
    exact l51f k0 u1 (p2.m.tr u2) rfl
  · have e1 := r51inside (b := b) (n := n) hf
    rw [es, e1]
    refine w_aloadn f51_0 rfl (by omega) ?_
    refine w_ldc f51_1 ?_
    refine w_cV f51_3 (Or.inl rfl) rfl (by omega) (okd_of (by assumption)) rfl ⟨Nat.le_of_ble_eq_true rfl, rfl, Nat.le_of_ble_eq_true rfl⟩ (en26 _ _) (s26n (t := 9) (l := tx_state) (by decide) rfl q z0) (pv26 _ _) ?_
    refine w_if_eq (t := 41) f51_6 (by decide) (fun c1 => ?_) (fun c1 => by omega)
    refine w_aloadn f51_41 rfl (by omega) ?_
    refine w_ldc f51_42 ?_
    refine w_cV f51_44 (Or.inl rfl) rfl (by omega) (okd_of (by assumption)) rfl ⟨Nat.le_of_ble_eq_true rfl, rfl, Nat.le_of_ble_eq_true rfl⟩ (en26 _ _) (s26n (t := 10) (l := tx_event) (by decide) rfl q z1) (pv26 _ _) ?_
    refine w_if_eq (t := 82) f51_47 (by decide) (fun c2 => ?_) (fun c2 => by omega)
    refine w_aloadn f51_82 rfl (by omega) ?_
    refine w_ldc f51_83 ?_
    refine w_cV f51_85 (Or.inl rfl) rfl (by omega) (okd_of (by assumption)) rfl ⟨Nat.le_of_ble_eq_true rfl, rfl, Nat.le_of_ble_eq_true rfl⟩ (en26 _ _) (s26n (t := 11) (l := tx_var) (by decide) rfl q z2) (pv26 _ _) ?_
    refine w_if_eq (t := 119) f51_88 (by decide) (fun c3 => ?_) (fun c3 => by omega)
    refine w_aloadn f51_119 rfl (by omega) ?_
    refine w_ldc f51_120 ?_
    refine w_cV f51_122 (Or.inl rfl) rfl (by omega) (okd_of (by assumption)) rfl ⟨Nat.le_of_ble_eq_true rfl, rfl, Nat.le_of_ble_eq_true rfl⟩ (en26 _ _) (s26n (t := 12) (l := tx_on) (by decide) rfl q z3) (pv26 _ _) ?_
    refine w_if_eq (t := 154) f51_125 (by decide) (fun c4 => ?_) (fun c4 => by omega)
    refine w_aloadn f51_154 rfl (by omega) ?_
    refine w_ldc f51_155 ?_
    refine w_cV f51_157 (Or.inl rfl) rfl (by omega) (okd_of (by assumption)) rfl ⟨Nat.le_of_ble_eq_true rfl, rfl, Nat.le_of_ble_eq_true rfl⟩ (en26 _ _) (s26n (t := 13) (l := tx_always) (by decide) rfl q z4) (pv26 _ _) ?_
    refine w_if_eq (t := 193) f51_160 (by decide) (fun c5 => ?_) (fun c5 => by omega)
    refine w_aloadn f51_193 rfl (by omega) ?_
    refine w_ldc f51_194 ?_
    refine w_cV f51_196 (Or.inl rfl) rfl (by omega) (okd_of (by assumption)) rfl ⟨Nat.le_of_ble_eq_true rfl, rfl, Nat.le_of_ble_eq_true rfl⟩ (en26 _ _) (s26t (t := 14) (l := tx_inside) (by decide) rfl q z) (pv26 _ _) ?_
    refine w_if_eq (t := 239) f51_199 (by decide) (fun c6 => by omega) (fun c6 => ?_)
    refine w_aloadn f51_202 rfl (by omega) ?_
    refine w_aloadn f51_203 rfl (by omega) ?_
    refine w_getR f51_204 (by assumption) rfl (by omega) ?_
    refine w_getI f51_207 (by decide) (by assumption) (by (try simp only [hput, hcopy, Nat.reduceEqDiff, Nat.add_left_cancel_iff, Nat.add_right_cancel_iff, Nat.left_eq_add, Nat.add_eq_left, Nat.right_eq_add, Nat.add_eq_right, Nat.reduceAdd, Nat.add_zero, Nat.succ_ne_self, Nat.one_ne_zero, Nat.zero_ne_one, eq_self, and_self, and_true, true_and, and_false, false_and, if_true, if_false, reduceIte, Int.reduceToNat, Int.toNat_natCast, p0]); exact rfl) ?_
    refine w_bipush (v := 12) f51_210 (by decide) ?_
    refine w_ic_ge (t := 219) f51_212 (by decide) (fun c7 => by omega) (fun c7 => ?_)
    refine w_iconst (v := 1) f51_215 (by decide) ?_
    refine w_goto (t := 220) f51_216 (by decide) ?_
    refine w_qV f51_220 (Or.inl rfl) rfl (by omega) (okd_of (by assumption)) rfl ⟨Nat.le_of_ble_eq_true rfl, rfl, Nat.le_of_ble_eq_true rfl⟩ (en29 _ _) (m29t (s := s) q (by decide)) (fun o9 ho9 => ?_)
    obtain ⟨h1, ⟨p1, p2⟩, rfl⟩ := ho9
    have R1 := hR.o hW.1 k0 p2
    refine w_bok (pv29 _ _) ?_
    refine w_aloadn f51_223 rfl (by omega) ?_
    refine w_aloadn f51_224 rfl (by omega) ?_
    refine w_aloadn f51_225 rfl (by omega) ?_
    refine w_aloadn f51_226 rfl (by omega) ?_
    refine w_getR f51_227 (by assumption) rfl (by omega) ?_
    refine w_qV f51_230 (Or.inl rfl) rfl (by omega) (okd_of (by assumption)) rfl ⟨Nat.le_of_ble_eq_true rfl, rfl, Nat.le_of_ble_eq_true rfl⟩ (en33 _ _) (m33 (j := 0) (s := setN (adv b n s) 0 (-1)) n1 (by omega) R1.1.1.1 v0 p1) (fun o9 ho9 => ?_)
    rcases ho9 with ⟨s1, h2, ⟨b1, b2, b3⟩, rfl⟩ | ⟨e, h2, ⟨b1, b2, b3⟩, rfl⟩
    rotate_left
    · refine w_bok (pv33 _ _) ?_
      exact l51i k0 hk1 b2 (p2.m.tr b3.m) (by rw [b1]; rfl) ((b3 _ _ (by omega)).trans ((p2 _ _ (by omega)).trans p0)) (by omega)
    have m1 := mKn_nn (c := 0) (s := setN (adv b n s) 0 (-1)) v0.1 b1
    have w1 : s1.1 = s.1 := m1.1
    have R2 := R1.o hW.1 k0 b3
    rw [← w1] at R2
    refine w_bok (pv33 _ _) ?_
    refine w_qV f51_233 (Or.inl rfl) rfl (by omega) (okd_of (by assumption)) rfl ⟨Nat.le_of_ble_eq_true rfl, rfl, Nat.le_of_ble_eq_true rfl⟩ (en54 _ _ _) (s54 (s := s1) hk1 k0 (by rw [w1]; exact hW) (by rw [w1]; omega) R2 b2 rfl) (fun o9 ho9 => ?_)
    rcases ho9 with ⟨s2, h3, ⟨c1, c2, c3, c4⟩, rfl⟩ | ⟨e, h3, ⟨c1, c2, c3⟩, rfl⟩
    rotate_left
    · refine w_bok (pv54 _ _) ?_
      refine w_goto (t := 244) f51_236 (by decide) ?_
      exact l51f k0 c2 ((p2.m.tr b3.m).tr c3) (by rw [b1]; show pb (m54 b n s1) _ = _; rw [c1]; rfl)
    refine w_bok (pv54 _ _) ?_
    refine w_goto (t := 244) f51_236 (by decide) ?_
    have eb : pb (mKn b n 0 357 0 (setN (adv b n s) 0 (-1))) (fun s => m54 b n s) = .inr s2 := by rw [b1]; exact c1
    rw [eb]
    exact l51g k0 c2 c3 ((p2.m.tr b3.m).tr c4) rfl (hW.hs h7 hT (es.trans e1) eb)
theorem l51no {k : Nat} {s : PS} (hk : ShRl (KS r d) k) (k0 : 3 < k) (q : GT h b n s.2.1) (z0 : ¬ isW b s.2.1 tx_state = true) (z1 : ¬ isW b s.2.1 tx_event = true) (z2 : ¬ isW b s.2.1 tx_var = true) (z3 : ¬ isW b s.2.1 tx_on = true) (z4 : ¬ isW b s.2.1 tx_always = true) (z5 : ¬ isW b s.2.1 tx_inside = true) : Rn (ev 51 0 [AR k, AR 2] [] (KS r d, h, R)) (RdQ r d R h b n k (mStm b n s)) := by
  have k2 := @kd_2 r d
  have es : mStm b n s = err 1 s := by unfold mStm; rw [if_neg z0, if_neg z1, if_neg z2, if_neg z3, if_neg z4, if_neg z5]
  refine w_aloadn f51_0 rfl (by omega) ?_
  refine w_ldc f51_1 ?_
  refine w_cV f51_3 (Or.inl rfl) rfl (by omega) (okd_of (by assumption)) rfl ⟨Nat.le_of_ble_eq_true rfl, rfl, Nat.le_of_ble_eq_true rfl⟩ (en26 _ _) (s26n (t := 9) (l := tx_state) (by decide) rfl q z0) (pv26 _ _) ?_
  refine w_if_eq (t := 41) f51_6 (by decide) (fun c1 => ?_) (fun c1 => by omega)
  refine w_aloadn f51_41 rfl (by omega) ?_
  refine w_ldc f51_42 ?_
  refine w_cV f51_44 (Or.inl rfl) rfl (by omega) (okd_of (by assumption)) rfl ⟨Nat.le_of_ble_eq_true rfl, rfl, Nat.le_of_ble_eq_true rfl⟩ (en26 _ _) (s26n (t := 10) (l := tx_event) (by decide) rfl q z1) (pv26 _ _) ?_
  refine w_if_eq (t := 82) f51_47 (by decide) (fun c2 => ?_) (fun c2 => by omega)
  refine w_aloadn f51_82 rfl (by omega) ?_
  refine w_ldc f51_83 ?_
  refine w_cV f51_85 (Or.inl rfl) rfl (by omega) (okd_of (by assumption)) rfl ⟨Nat.le_of_ble_eq_true rfl, rfl, Nat.le_of_ble_eq_true rfl⟩ (en26 _ _) (s26n (t := 11) (l := tx_var) (by decide) rfl q z2) (pv26 _ _) ?_
  refine w_if_eq (t := 119) f51_88 (by decide) (fun c3 => ?_) (fun c3 => by omega)
  refine w_aloadn f51_119 rfl (by omega) ?_
  refine w_ldc f51_120 ?_
  refine w_cV f51_122 (Or.inl rfl) rfl (by omega) (okd_of (by assumption)) rfl ⟨Nat.le_of_ble_eq_true rfl, rfl, Nat.le_of_ble_eq_true rfl⟩ (en26 _ _) (s26n (t := 12) (l := tx_on) (by decide) rfl q z3) (pv26 _ _) ?_
  refine w_if_eq (t := 154) f51_125 (by decide) (fun c4 => ?_) (fun c4 => by omega)
  refine w_aloadn f51_154 rfl (by omega) ?_
  refine w_ldc f51_155 ?_
  refine w_cV f51_157 (Or.inl rfl) rfl (by omega) (okd_of (by assumption)) rfl ⟨Nat.le_of_ble_eq_true rfl, rfl, Nat.le_of_ble_eq_true rfl⟩ (en26 _ _) (s26n (t := 13) (l := tx_always) (by decide) rfl q z4) (pv26 _ _) ?_
  refine w_if_eq (t := 193) f51_160 (by decide) (fun c5 => ?_) (fun c5 => by omega)
  refine w_aloadn f51_193 rfl (by omega) ?_
  refine w_ldc f51_194 ?_
  refine w_cV f51_196 (Or.inl rfl) rfl (by omega) (okd_of (by assumption)) rfl ⟨Nat.le_of_ble_eq_true rfl, rfl, Nat.le_of_ble_eq_true rfl⟩ (en26 _ _) (s26n (t := 14) (l := tx_inside) (by decide) rfl q z5) (pv26 _ _) ?_
  refine w_if_eq (t := 239) f51_199 (by decide) (fun c6 => ?_) (fun c6 => by omega)
  refine w_aloadn f51_239 rfl (by omega) ?_
  refine w_iconst (v := 1) f51_240 (by decide) ?_
  refine w_cV f51_241 (Or.inl rfl) rfl (by omega) (okd_of (by assumption)) rfl ⟨Nat.le_of_ble_eq_true rfl, rfl, Nat.le_of_ble_eq_true rfl⟩ (en24 _ _) (s24) (pv24 _ _) ?_
  exact l51f (e := (1, s.2.1.1, s.1)) k0 (fle_F q (by decide)) fle_o.m es
theorem s51 {k : Nat} {s : PS} (hk : ShRl (KS r d) k) (k0 : 3 < k) (hW : WFm s.1) (h7 : n ≤ 700) (hR : RRl h k s.1) (q : GT h b n s.2.1) : Rn (ev 51 0 [AR k, AR 2] [] (KS r d, h, R)) (RdQ r d R h b n k (mStm b n s)) := by
  by_cases z0 : isW b s.2.1 tx_state = true
  · exact l51state hk k0 hW h7 hR q z0
  by_cases z1 : isW b s.2.1 tx_event = true
  · exact l51event hk k0 hW h7 hR q z0 z1
  by_cases z2 : isW b s.2.1 tx_var = true
  · exact l51var hk k0 hW h7 hR q z0 z1 z2
  by_cases z3 : isW b s.2.1 tx_on = true
  · exact l51on hk k0 hW h7 hR q z0 z1 z2 z3
  by_cases z4 : isW b s.2.1 tx_always = true
  · exact l51always hk k0 hW h7 hR q z0 z1 z2 z3 z4
  by_cases z5 : isW b s.2.1 tx_inside = true
  · exact l51inside hk k0 hW h7 hR q z0 z1 z2 z3 z4 z5
  · exact l51no hk k0 q z0 z1 z2 z3 z4 z5
end A

/-! the class's reading: the script -/
section A
variable {K : List AKd} {h : Nat → Nat → Int} {R : R4} {σ : Sg} {r d : Nat} {w : Nat → Int} {b : Nat → Int} {n : Int}
theorem l56f {h0 : Nat → Nat → Int} {l : Nat} {i : Int} {e : Int × Int × (Nat → Int)} {m : PM2} (q : FT h b n e) (hF : FsO h0 h) (hm : m = .inl (e.1, e.2.1)) (hi : 0 ≤ i ∧ i ≤ 100) : Rn (ev 56 11 [AR 4, AR 2, AR l, AI i] [] (KS r d, h, R)) (ScQ r d R h0 b n m) := by
  have k2 := @kd_2 r d
  have h6 : h 2 6 ≠ 0 := by rw [q.1.1]; exact q.1.2.1
  obtain ⟨-, T, hP⟩ := id q
  have z23 := s23 (r := r) (d := d) (R := R) hP
  rw [b2i_f (fun z => h6 z.1)] at z23
  refine w_iloadn f56_11 rfl ?_
  refine w_bipush (v := 30) f56_12 (by decide) ?_
  refine w_ic_gt (t := 36) f56_14 (by decide) (fun c1 => ?_) (fun c1 => ?_)
  · refine w_ret f56_36 rfl ?_
    exact Or.inr ⟨(e.1, e.2.1), h, ⟨hm, q, hF⟩, rfl⟩
  · refine w_aloadn f56_17 rfl (by omega) ?_
    refine w_cV f56_18 (Or.inl rfl) rfl (by omega) (okd_of (by assumption)) rfl ⟨Nat.le_of_ble_eq_true rfl, rfl, Nat.le_of_ble_eq_true rfl⟩ (en23 _) (z23) (pv23 _ _) ?_
    refine w_if_eq (t := 36) f56_21 (by decide) (fun c2 => ?_) (fun c2 => by omega)
    refine w_ret f56_36 rfl ?_
    exact Or.inr ⟨(e.1, e.2.1), h, ⟨hm, q, hF⟩, rfl⟩
theorem l56n {i : Int} {l : Nat} {Q : Out → Prop} (hi : 0 ≤ i ∧ i ≤ 700) (g : Rn (ev 56 11 [AR 4, AR 2, AR l, AI (i + 1)] [] σ) Q) : Rn (ev 56 30 [AR 4, AR 2, AR l, AI i] [] σ) Q := by
  refine w_iincn f56_30 rfl (by omega) (sto_4_3 rfl) ?_
  refine w_goto (t := 11) f56_33 (by decide) ?_
  exact g
theorem l56 {h0 : Nat → Nat → Int} {l : Nat} (hl : ShRl (KS r d) l) (l0 : 7 < l) (hW : WFm w) (hR0 : CRl h0 l w) : ∀ (f : Nat) (i : Int) (s : PS) (L : SL) (h : Nat → Nat → Int), i + f = 31 → L.2.2.2 = i → (0 ≤ i ∧ i ≤ 30) → s.1 = w → GT h b n s.2.1 → SLc h L → SLk L → FsO h0 h → Rn (ev 56 11 [AR 4, AR 2, AR l, AI i] [] (KS r d, h, R)) (ScQ r d R h0 b n (mScr b n f s L)) := by
  intro f
  have k2 := @kd_2 r d
  have k1 := hl.1
  have k4 := @kd_4 r d
  induction f with
  | zero =>
    intro i s L h h1 h2 h3 hw q hL hk hF
    omega
  | succ f ih =>
    intro i s L h h1 h2 h3 hw q hL hk hF
    have z23 := s23 (r := r) (d := d) (R := R) q.1
    by_cases hz : s.2.1.2.2.2 = 0
    · have e : mScr b n (f + 1) s L = .inr (s, L) := by simp only [mScr]; rw [if_pos hz]
      rw [e]
      rw [b2i_f (fun z => z.2 hz)] at z23
      refine w_iloadn f56_11 rfl ?_
      refine w_bipush (v := 30) f56_12 (by decide) ?_
      refine w_ic_gt (t := 36) f56_14 (by decide) (fun c1 => by omega) (fun c1 => ?_)
      refine w_aloadn f56_17 rfl (by omega) ?_
      refine w_cV f56_18 (Or.inl rfl) rfl (by omega) (okd_of (by assumption)) rfl ⟨Nat.le_of_ble_eq_true rfl, rfl, Nat.le_of_ble_eq_true rfl⟩ (en23 _) (z23) (pv23 _ _) ?_
      refine w_if_eq (t := 36) f56_21 (by decide) (fun c2 => ?_) (fun c2 => by omega)
      refine w_ret f56_36 rfl ?_
      exact Or.inl ⟨s, L, h, ⟨rfl, q, hL, hF⟩, rfl⟩
    · have e : mScr b n (f + 1) s L = (match mSS b n s L with
        | .inl e => .inl e
        | .inr z => mScr b n f z.1 z.2) := by rw [mScr, if_neg hz]; rfl
      rw [e]
      rw [b2i_t ⟨q.2.1, hz⟩] at z23
      have hR : CRl h l s.1 := by rw [hw]; exact hR0.fr hW.1 (fun x y z1 z2 => hF x y (by omega) (by omega))
      refine w_iloadn f56_11 rfl ?_
      refine w_bipush (v := 30) f56_12 (by decide) ?_
      refine w_ic_gt (t := 36) f56_14 (by decide) (fun c1 => by omega) (fun c1 => ?_)
      refine w_aloadn f56_17 rfl (by omega) ?_
      refine w_cV f56_18 (Or.inl rfl) rfl (by omega) (okd_of (by assumption)) rfl ⟨Nat.le_of_ble_eq_true rfl, rfl, Nat.le_of_ble_eq_true rfl⟩ (en23 _) (z23) (pv23 _ _) ?_
      refine w_if_eq (t := 36) f56_21 (by decide) (fun c2 => by omega) (fun c2 => ?_)
      refine w_aloadn f56_24 rfl (by omega) ?_
      refine w_aloadn f56_25 rfl (by omega) ?_
      refine w_aloadn f56_26 rfl (by omega) ?_
      refine w_qV f56_27 (Or.inl rfl) rfl (by omega) (okd_of (by assumption)) rfl ⟨Nat.le_of_ble_eq_true rfl, rfl, Nat.le_of_ble_eq_true rfl⟩ (en57 _ _ _) (s57 hl l0 (by rw [hw]; exact hW) hR q hL (by omega)) (fun o9 ho9 => ?_)
      rcases ho9 with ⟨s1, L1, h2, ⟨b1, b2, b3, b4⟩, rfl⟩ | ⟨e, h2, ⟨b1, b2, b3⟩, rfl⟩
      rotate_left
      · refine w_bok (pv57 _ _) ?_
        refine l56n (by omega) (l56f b2 (hF.tr b3) (by rw [b1]) ⟨by omega, by omega⟩)
      refine w_bok (pv57 _ _) ?_
      refine w_iincn f56_30 rfl (by omega) (sto_4_3 rfl) ?_
      refine w_goto (t := 11) f56_33 (by decide) ?_
      rw [b1]
      have g := mSS_k (by rw [hw]; exact hW.1) (by omega) hk b1
      exact ih (i + 1) s1 L1 h2 (by omega) (by rw [g.2.2.1]; omega) (by omega) (g.2.1.trans hw) b2 b3 g.1 (hF.tr b4)
theorem s56 {l : Nat} {nn : Nat → Int} (hl : ShRl (KS r d) l) (l0 : 7 < l) (hW : WFm w) (hR : CRl h l w) (hb : h 3 = b) (hn : h 2 1 = n) (h7 : n ≤ 700) (hb0 : ∀ y, 0 ≤ b y) : Rn (ev 56 0 [AR 4, AR 2, AR l, AU] [] (KS r d, h, R)) (ScQ r d R h b n (mRun b n w nn)) := by
  have k2 := @kd_2 r d
  have k1 := hl.1
  have k4 := @kd_4 r d
  have o1 : FsO h (hput h 4 0 0) := fun x y z1 z2 => hput_k (by omega)
  refine w_aloadn f56_0 rfl (by omega) ?_
  refine w_iconst (v := 0) f56_1 (by decide) ?_
  refine w_putI f56_2 (by assumption) ?_
  refine w_aloadn f56_5 rfl (by omega) ?_
  refine w_qV f56_6 (Or.inl rfl) rfl (by omega) (okd_of (by assumption)) rfl ⟨Nat.le_of_ble_eq_true rfl, rfl, Nat.le_of_ble_eq_true rfl⟩ (en21 _) (s21 (b := b) (n := n) (hput_w hb (by decide)) ((hput_k (by decide)).trans hn) h7 hb0) (fun o9 ho9 => ?_)
  obtain ⟨h2, ⟨q1, q2⟩, rfl⟩ := ho9
  refine w_bok (pv21 _ _) ?_
  refine w_iconst (v := 0) f56_9 (by decide) ?_
  refine w_istoren f56_10 (Nat.le_of_ble_eq_true rfl) (sto_4_3 rfl) ?_
  exact l56 hl l0 hW hR 31 0 (w, tok b n 0, nn) SL0 h2 (by omega) rfl (by omega) rfl q1 ⟨(q2 _ _ (by omega)).trans hput_s, fun k hk => absurd (show (k : Int) < 0 from hk) (by omega)⟩ (fun k hk => absurd (show (k : Int) < 0 from hk) (by omega)) (o1.tr q2.s)
end A

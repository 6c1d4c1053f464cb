/-! the class runs a script -/
section A
variable {K : List AKd} {h : Nat → Nat → Int} {R : R4} {σ : Sg} {r d : Nat} {w u : Nat → Int} {b : Nat → Int} {n N M : Int}
theorem EX_do {x a c : Int} (hd : WFd w N) (q : EX w) (hn : 1 ≤ w 0) (h2 : x = 2 → (0 ≤ a ∧ a ≤ 2) ∧ (0 ≤ c ∧ c ≤ 9)) : EX (doW w x a c).2 ∧ SameR w (doW w x a c).2 := by
  by_cases z1 : x = 1
  · rw [doW1 z1]
    exact EX_fir hd q
  by_cases z2 : x = 2
  · by_cases y : fb w (withV (hereW w) a c) = -1
    · rw [doW2 z2 y]
      have := h2 z2
      exact ⟨EX_set hd q ⟨by omega, by omega⟩, SR_set ⟨by omega, by omega⟩⟩
    · rw [doW2f z2 y]
      exact ⟨q, fun _ _ => rfl⟩
  by_cases z3 : x = 3
  · rw [doW3 z3]
    exact ⟨EX_g2 hd q, SR_g2⟩
  · rw [doW4 (by omega)]
    exact ⟨EX_clr hd q hn, SR_clr hd⟩
theorem doW_01 {x a c : Int} : (doW w x a c).1 = 0 ∨ (doW w x a c).1 = 1 := by
  unfold doW
  split
  · exact Or.inr rfl
  · split
    · split
      · exact Or.inr rfl
      · exact Or.inl rfl
    · split
      · exact Or.inr rfl
      · exact Or.inr rfl
def RsQ (r d : Nat) (R : R4) (h : Nat → Nat → Int) (w : Nat → Int) (p : Int × (Nat → Int)) : Out → Prop := fun o => ∃ h1, (NwO h h1 ∧ RSt h1 8 p.2 ∧ EX p.2 ∧ SameR w p.2) ∧ o = (.inl (AI p.1), (KS r d, h1, R))
theorem l76 {L : SL} {h0 : Nat → Nat → Int} {w0 : Nat → Int} (hr : RD2 r) (h30 : L.2.2.2 ≤ 30) (hs : SLk L) (hL : SLc h0 L) : ∀ (f k : Nat) (w : Nat → Int) (h : Nat → Nat → Int) (N : Int), (k : Int) + f = L.2.2.2 → 0 ≤ N → N + f < 2000000000 → WFd w N → 1 ≤ w 0 → EX w → SameR w0 w → CRl h r w → RSt h 8 w → NwO h0 h → Rn (ev 76 34 [AR 1, AI k] [] (KS r d, h, R)) (RsQ r d R h0 w0 (mEx L f k w)) := by
  intro f
  have k1 := @kd_1 r d
  have k4 := @kd_4 r d
  induction f with
  | zero =>
    intro k w h N h1 h2 h3 hd hn hx hsr hc hq ho
    have e4 : h 4 0 = L.2.2.2 := (ho 4 0 (by decide) (by decide)).trans hL.1
    refine w_iloadn f76_34 rfl ?_
    refine w_aloadn f76_35 rfl (by omega) ?_
    refine w_getR f76_36 (by assumption) rfl (by omega) ?_
    refine w_getI f76_39 (by decide) (by assumption) (by (try simp only [hput, hcopy, Nat.reduceEqDiff, Nat.add_left_cancel_iff, Nat.add_right_cancel_iff, Nat.left_eq_add, Nat.add_eq_left, Nat.right_eq_add, Nat.add_eq_right, Nat.reduceAdd, Nat.add_zero, Nat.succ_ne_self, Nat.one_ne_zero, Nat.zero_ne_one, eq_self, and_self, and_true, true_and, and_false, false_and, if_true, if_false, reduceIte, Int.reduceToNat, Int.toNat_natCast, e4]); exact rfl) ?_
    refine w_ic_ge (t := 65) f76_42 (by decide) (fun c1 => ?_) (fun c1 => by omega)
    refine w_iloadn f76_65 rfl ?_
    refine w_iret f76_66 rfl ?_
    exact ⟨h, ⟨ho, hq, hx, hsr⟩, rfl⟩
  | succ f ih =>
    intro k w h N h1 h2 h3 hd hn hx hsr hc hq ho
    have r0 : 156 ≤ r := by unfold RD2 at hr; omega
    have e4 : h 4 0 = L.2.2.2 := (ho 4 0 (by decide) (by decide)).trans hL.1
    have ek : ((k : Int)).toNat = k := by omega
    have hL1 : SLc h L := hL.fr (fun x y z1 z2 => ho x y (by omega) (by omega))
    have z := s143 (r := r) (d := d) (R := R) (k := k) hr hd hc hq hL1 (by omega) h30 hs
    obtain ⟨x1, x2⟩ := EX_do (x := L.1 k) (a := L.2.1 k) (c := L.2.2.1 k) hd hx hn (hs k (by omega))
    have x3 := doW_d (x := L.1 k) (a := L.2.1 k) (c := L.2.2.1 k) h2 (by omega) (hs k (by omega)) hd
    by_cases y : (doW w (L.1 k) (L.2.1 k) (L.2.2.1 k)).1 = 0
    · have em : mEx L (f + 1) k w = ((k : Int), (doW w (L.1 k) (L.2.1 k) (L.2.2.1 k)).2) := by
        simp only [mEx]
        rw [ek, if_pos y]
      rw [em]
      have z := z.mono (Q1 := fun o => ∃ h1, (NwO h h1 ∧ RSt h1 8 (doW w (L.1 k) (L.2.1 k) (L.2.2.1 k)).2) ∧ o = (.inl (AI 0), (KS r d, h1, R))) (fun o q => by
        unfold ExQ at q
        rw [y] at q
        exact q)
      refine w_iloadn f76_34 rfl ?_
      refine w_aloadn f76_35 rfl (by omega) ?_
      refine w_getR f76_36 (by assumption) rfl (by omega) ?_
      refine w_getI f76_39 (by decide) (by assumption) (by (try simp only [hput, hcopy, Nat.reduceEqDiff, Nat.add_left_cancel_iff, Nat.add_right_cancel_iff, Nat.left_eq_add, Nat.add_eq_left, Nat.right_eq_add, Nat.add_eq_right, Nat.reduceAdd, Nat.add_zero, Nat.succ_ne_self, Nat.one_ne_zero, Nat.zero_ne_one, eq_self, and_self, and_true, true_and, and_false, false_and, if_true, if_false, reduceIte, Int.reduceToNat, Int.toNat_natCast, e4]); exact rfl) ?_
      refine w_ic_ge (t := 65) f76_42 (by decide) (fun c1 => by omega) (fun c1 => ?_)
      refine w_iloadn f76_45 rfl ?_
      refine w_bipush (v := 30) f76_46 (by decide) ?_
      refine w_ic_ge (t := 65) f76_48 (by decide) (fun c2 => by omega) (fun c2 => ?_)
      refine w_aloadn f76_51 rfl (by omega) ?_
      refine w_iloadn f76_52 rfl ?_
      refine w_qV f76_53 (Or.inl rfl) rfl (by omega) (okd_of (by assumption)) rfl ⟨Nat.le_of_ble_eq_true rfl, rfl, Nat.le_of_ble_eq_true rfl⟩ (en143 _ _) (z) (fun o9 ho9 => ?_)
      obtain ⟨h2, ⟨o1, c1⟩, rfl⟩ := ho9
      refine w_bok (pv143 _ _) ?_
      refine w_if_eq (t := 65) f76_56 (by decide) (fun c3 => ?_) (fun c3 => by omega)
      refine w_iloadn f76_65 rfl ?_
      refine w_iret f76_66 rfl ?_
      exact ⟨h2, ⟨ho.tr o1, c1, x1, hsr.tr x2⟩, rfl⟩
    · have em : mEx L (f + 1) k w = mEx L f (k + 1) (doW w (L.1 k) (L.2.1 k) (L.2.2.1 k)).2 := by
        simp only [mEx]
        rw [ek, if_neg y]
      rw [em]
      have y1 : (doW w (L.1 k) (L.2.1 k) (L.2.2.1 k)).1 = 1 := doW_01.resolve_left y
      have z := z.mono (Q1 := fun o => ∃ h1, (NwO h h1 ∧ RSt h1 8 (doW w (L.1 k) (L.2.1 k) (L.2.2.1 k)).2) ∧ o = (.inl (AI 1), (KS r d, h1, R))) (fun o q => by
        unfold ExQ at q
        rw [y1] at q
        exact q)
      have ec : (k : Int) + 1 = ((k + 1 : Nat) : Int) := by omega
      rw [ec]
      refine w_iloadn f76_34 rfl ?_
      refine w_aloadn f76_35 rfl (by omega) ?_
      refine w_getR f76_36 (by assumption) rfl (by omega) ?_
      refine w_getI f76_39 (by decide) (by assumption) (by (try simp only [hput, hcopy, Nat.reduceEqDiff, Nat.add_left_cancel_iff, Nat.add_right_cancel_iff, Nat.left_eq_add, Nat.add_eq_left, Nat.right_eq_add, Nat.add_eq_right, Nat.reduceAdd, Nat.add_zero, Nat.succ_ne_self, Nat.one_ne_zero, Nat.zero_ne_one, eq_self, and_self, and_true, true_and, and_false, false_and, if_true, if_false, reduceIte, Int.reduceToNat, Int.toNat_natCast, e4]); exact rfl) ?_
      refine w_ic_ge (t := 65) f76_42 (by decide) (fun c1 => by omega) (fun c1 => ?_)
      refine w_iloadn f76_45 rfl ?_
      refine w_bipush (v := 30) f76_46 (by decide) ?_
      refine w_ic_ge (t := 65) f76_48 (by decide) (fun c2 => by omega) (fun c2 => ?_)
      refine w_aloadn f76_51 rfl (by omega) ?_
      refine w_iloadn f76_52 rfl ?_
      refine w_qV f76_53 (Or.inl rfl) rfl (by omega) (okd_of (by assumption)) rfl ⟨Nat.le_of_ble_eq_true rfl, rfl, Nat.le_of_ble_eq_true rfl⟩ (en143 _ _) (z) (fun o9 ho9 => ?_)
      obtain ⟨h2, ⟨o1, c1⟩, rfl⟩ := ho9
      refine w_bok (pv143 _ _) ?_
      refine w_if_eq (t := 65) f76_56 (by decide) (fun c3 => by omega) (fun c3 => ?_)
      refine w_iincn f76_59 rfl (by omega) (sto_2_1 rfl) ?_
      refine w_goto (t := 34) f76_62 (by decide) ?_
      rw [ec]
      exact ih (k + 1) _ h2 (N + 1) (by omega) (by omega) (by omega) x3 (by rw [x2 0 (by omega)]; exact hn) x1 (hsr.tr x2) ((hc.ag hd.1 x2).fr x3.1.1 (fun x y z1 z2 => o1 x y (by omega) (by omega))) c1 (ho.tr o1)
/-- what running a script comes to in the class -/
def RunC (r d : Nat) (R : R4) (h : Nat → Nat → Int) (w : Nat → Int) (m : PM2) : Out → Prop := fun o => match m with
  | .inl e => ∃ h1, ((∀ x y, x ≠ 2 → (x < 4 ∨ 7 < x) → ¬ (x = 1 ∧ 11 ≤ y ∧ y ≤ 12) → h1 x y = h x y) ∧ (h1 1 11 = e.1 ∧ h1 1 12 = e.2) ∧ h1 2 1 = 0) ∧ o = (.inl (AI (-1)), (KS r d, h1, R))
  | .inr z => ∃ h1 h2, ((∀ x y, x ≠ 2 → (x < 4 ∨ 7 < x) → ¬ (x = 1 ∧ 11 ≤ y ∧ y ≤ 12) → h1 x y = h x y) ∧ (h1 1 11 = 0 ∧ h1 1 12 = -1) ∧ h1 2 1 = 0) ∧ ClQ h1 w (mEx z.2 z.2.2.2.2.toNat 0 w).2 h2 ∧ EX (mEx z.2 z.2.2.2.2.toNat 0 w).2 ∧ SameR w (mEx z.2 z.2.2.2.2.toNat 0 w).2 ∧ o = (.inl (AI (mEx z.2 z.2.2.2.2.toNat 0 w).1), (KS r d, h2, R))
theorem l76f {h1 : Nat → Nat → Int} {e : Int × Int} {m : PM2} (hm : m = .inl e) (q : FT h1 b n (e.1, e.2, fun _ => 0)) (f : FsO h h1) : Rn (ev 76 15 [AR 1, AU] [] (KS r d, h1, R)) (RunC r d R h w m) := by
  have k1 := @kd_1 r d
  have ne := q.1.2.1
  rw [hm]
  refine w_aloadn f76_15 rfl (by omega) ?_
  refine w_cV f76_16 (Or.inl rfl) rfl (by omega) (okd_of (by assumption)) rfl ⟨Nat.le_of_ble_eq_true rfl, rfl, Nat.le_of_ble_eq_true rfl⟩ (en137 _) (s137) (pv137 _ _) ?_
  refine w_aloadn f76_19 rfl (by omega) ?_
  refine w_getI f76_20 (by decide) (by assumption) (by exact (hput_k (by decide)).trans ((hput_j (by decide)).trans (hput_s.trans q.1.1))) ?_
  refine w_if_eq (t := 28) f76_23 (by decide) (fun c1 => absurd (by assumption) ne) (fun c1 => ?_)
  refine w_iconst (v := -1) f76_26 (by decide) ?_
  refine w_iret f76_27 rfl ?_
  refine ⟨_, ⟨fun x y x1 x2 x3 => ?_, ⟨?_, ?_⟩, ?_⟩, rfl⟩
  · exact (hput_k x1).trans ((if_neg (by omega)).trans ((if_neg (by omega)).trans (f x y (by omega) x2)))
  · exact (hput_k (by decide)).trans ((hput_j (by decide)).trans (hput_s.trans q.1.1))
  · exact (hput_k (by decide)).trans (hput_s.trans q.1.2.2)
  · exact hput_s
theorem s76 {nn : Nat → Int} (hM : RelM r d N h w) (hN : 0 ≤ N ∧ N < 1000000000) (hp : 0 ≤ h 34 1 ∧ h 34 1 < 8) (hcn : 0 ≤ h 34 2 ∧ h 34 2 ≤ 8) (hb : h 3 = b) (hn : h 2 1 = n) (h7 : n ≤ 700) (hb0 : ∀ y, 0 ≤ b y) : Rn (ev 76 0 [AR 1, AU] [] (KS r d, h, R)) (RunC r d R h w (mRun b n w nn)) := by
  have r0 := hM.rd
  obtain ⟨⟨hr, h40⟩, ⟨hd, hx, hz⟩, hw, qr, qs, qS⟩ := hM
  have hl := shRl (r := r) (d := d) r0.1
  have l1 := hl.1
  have k1 := @kd_1 r d
  have k2 := @kd_2 r d
  have k4 := @kd_4 r d
  have v4 := hd.1.1.2.2.2.2
  have rep : ∀ h1, FsO h h1 → (∀ x y, x ≠ 2 → (x < 4 ∨ 7 < x) → ¬ (x = 1 ∧ 11 ≤ y ∧ y ≤ 12) → hput (hput (hput h1 1 11 (h1 2 6)) 1 12 (h1 2 7)) 2 1 0 x y = h x y) ∧ hput (hput (hput h1 1 11 (h1 2 6)) 1 12 (h1 2 7)) 2 1 0 1 11 = h1 2 6 ∧ hput (hput (hput h1 1 11 (h1 2 6)) 1 12 (h1 2 7)) 2 1 0 1 12 = h1 2 7 ∧ hput (hput (hput h1 1 11 (h1 2 6)) 1 12 (h1 2 7)) 2 1 0 2 1 = 0 := fun h1 f => ⟨fun x y x1 x2 x3 => (hput_k x1).trans ((if_neg (by omega)).trans ((if_neg (by omega)).trans (f x y (by omega) x2))), (hput_k (by decide)).trans ((hput_j (by decide)).trans hput_s), (hput_k (by decide)).trans hput_s, hput_s⟩
  have q56 := s56 (r := r) (d := d) (R := R) (nn := nn) hl (by omega) hd.1 qr hb hn h7 hb0
  cases hm : mRun b n w nn with
  | inl e =>
    rw [hm] at q56
    refine w_aloadn f76_0 rfl (by omega) ?_
    refine w_getR f76_1 (by assumption) rfl (by omega) ?_
    refine w_aloadn f76_4 rfl (by omega) ?_
    refine w_getR f76_5 (by assumption) rfl (by omega) ?_
    refine w_aloadn f76_8 rfl (by omega) ?_
    refine w_getR f76_9 (by assumption) rfl (by omega) ?_
    refine w_qV f76_12 (Or.inl rfl) rfl (by omega) (okd_of (by assumption)) rfl ⟨Nat.le_of_ble_eq_true rfl, rfl, Nat.le_of_ble_eq_true rfl⟩ (en56 _ _ _) (q56) (fun o9 ho9 => ?_)
    rcases ho9 with ⟨s, L, h1, ⟨a1, a2, a3, a4⟩, rfl⟩ | ⟨e1, h1, ⟨a1, a2, a3⟩, rfl⟩
    · cases a1
    injection a1 with a1
    subst a1
    refine w_bok (pv56 _ _) ?_
    exact l76f rfl a2 a3
  | inr z =>
    rw [hm] at q56
    have ok := mScr_k 31 (w, tok b n 0, nn) SL0 z hd.1.1 ⟨by decide, by decide⟩ (fun k hk => absurd (show (k : Int) < 0 from hk) (by omega)) hm
    obtain ⟨ok1, ok2, ok3⟩ := ok
    refine w_aloadn f76_0 rfl (by omega) ?_
    refine w_getR f76_1 (by assumption) rfl (by omega) ?_
    refine w_aloadn f76_4 rfl (by omega) ?_
    refine w_getR f76_5 (by assumption) rfl (by omega) ?_
    refine w_aloadn f76_8 rfl (by omega) ?_
    refine w_getR f76_9 (by assumption) rfl (by omega) ?_
    refine w_qV f76_12 (Or.inl rfl) rfl (by omega) (okd_of (by assumption)) rfl ⟨Nat.le_of_ble_eq_true rfl, rfl, Nat.le_of_ble_eq_true rfl⟩ (en56 _ _ _) (q56) (fun o9 ho9 => ?_)
    rcases ho9 with ⟨s, L, h1, ⟨a1, a2, a3, a4⟩, rfl⟩ | ⟨e1, h1, ⟨a1, a2, a3⟩, rfl⟩
    rotate_left
    · cases a1
    injection a1 with a1
    subst a1
    have rr := rep _ a4
    have qs2 := qs.fr (h1 := hput (hput (hput h1 1 11 (h1 2 6)) 1 12 (h1 2 7)) 2 1 0) (fun x y z1 z2 => rr.1 x y (by omega) (by omega) (by omega))
    have hp2 : 0 ≤ hput (hput (hput h1 1 11 (h1 2 6)) 1 12 (h1 2 7)) 2 1 0 34 1 ∧ hput (hput (hput h1 1 11 (h1 2 6)) 1 12 (h1 2 7)) 2 1 0 34 1 < 8 := by rw [rr.1 34 1 (by decide) (by decide) (by decide)]; exact hp
    have hc2 : 0 ≤ hput (hput (hput h1 1 11 (h1 2 6)) 1 12 (h1 2 7)) 2 1 0 34 2 ∧ hput (hput (hput h1 1 11 (h1 2 6)) 1 12 (h1 2 7)) 2 1 0 34 2 ≤ 8 := by rw [rr.1 34 2 (by decide) (by decide) (by decide)]; exact hcn
    refine w_bok (pv56 _ _) ?_
    refine w_aloadn f76_15 rfl (by omega) ?_
    refine w_cV f76_16 (Or.inl rfl) rfl (by omega) (okd_of (by assumption)) rfl ⟨Nat.le_of_ble_eq_true rfl, rfl, Nat.le_of_ble_eq_true rfl⟩ (en137 _) (s137) (pv137 _ _) ?_
    refine w_aloadn f76_19 rfl (by omega) ?_
    refine w_getI f76_20 (by decide) (by assumption) (by exact rr.2.1.trans a2.2.1) ?_
    refine w_if_eq (t := 28) f76_23 (by decide) (fun c1 => ?_) (fun c1 => by omega)
    refine w_aloadn f76_28 rfl (by omega) ?_
    refine w_qV f76_29 (Or.inl rfl) rfl (by omega) (okd_of (by assumption)) rfl ⟨Nat.le_of_ble_eq_true rfl, rfl, Nat.le_of_ble_eq_true rfl⟩ (en138 _) (s138 v4 hd.2.2.1.2 hp2 hc2 qs2) (fun o9 ho9 => ?_)
    obtain ⟨h3, p, rfl⟩ := ho9
    have pn := p.now hp2
    refine w_bok (pv138 _ _) ?_
    refine w_iconst (v := 0) f76_32 (by decide) ?_
    refine w_istoren f76_33 (Nat.le_of_ble_eq_true rfl) (sto_2_1 rfl) ?_
    have ok4 : 0 ≤ L.2.2.2 ∧ L.2.2.2 ≤ 30 := ok3
    refine (l76 (h0 := h3) (w0 := w) (L := L) r0.1 ok3.2 ok1 (a3.fr (fun x y y1 y2 => (pn x y (by omega) (by omega)).trans ((hput_k (by omega)).trans ((hput_k (by omega)).trans (hput_k (by omega)))))) L.2.2.2.toNat 0 w h3 N (by show ((0 : Nat) : Int) + (L.2.2.2.toNat : Nat) = L.2.2.2; omega) hN.1 (by show N + (L.2.2.2.toNat : Nat) < 2000000000; omega) hd hw.1 hx (fun _ _ => rfl) (qr.fr hd.1.1 (fun x y y1 y2 => (pn x y (by omega) (by omega)).trans (rr.1 x y (by omega) (by omega) (by omega)))) (qs2.fr (fun x y y1 y2 => pn x y (by omega) (by omega))) NwO.rf).mono (fun o q => ?_)
    obtain ⟨h4, ⟨o1, c1, c2, c3⟩, rfl⟩ := q
    exact ⟨_, h4, ⟨rr.1, ⟨rr.2.1.trans a2.2.1, rr.2.2.1.trans a2.2.2⟩, rr.2.2.2⟩, p.cl hp2 o1 c1, c2, c3, rfl⟩
end A

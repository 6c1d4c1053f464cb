/-! the reference runs a script, III -/
section A
variable {K : List AKd} {h : Nat → Nat → Int} {R : R4} {σ : Sg} {r d : Nat} {w : Nat → Int} {b : Nat → Int} {n : Int}
def mScr (b : Nat → Int) (n : Int) : Nat → PS → SL → PM2
  | 0, s, L => .inr (s, L)
  | f + 1, s, L => if s.2.1.2.2.2 = 0 then .inr (s, L) else match mSS b n s L with
    | .inl e => .inl e
    | .inr z => mScr b n f z.1 z.2
def SF (h0 : Nat → Nat → Int) (b : Nat → Int) (n : Int) (m : PM2) (x : Int) (h1 : Nat → Nat → Int) : Prop := match m with
  | .inl e => x = 0 ∧ h1 268 16 = e.1 ∧ h1 268 17 = e.2 ∧ FrS h0 h1
  | .inr z => x = 1 ∧ PS2 h0 b n z.1 z.2 h1
theorem PB2.ex {h0 : Nat → Nat → Int} {m : PM2} {o : Out} (q : PB2 r d R h0 b n m o) : ∃ x h1, SF h0 b n m x h1 ∧ o = (.inl (AI x), (KS r d, h1, R)) := by
  cases m with
  | inl e =>
    obtain ⟨h1, q1, rfl⟩ := q
    exact ⟨0, h1, ⟨rfl, q1⟩, rfl⟩
  | inr z =>
    obtain ⟨h1, q1, rfl⟩ := q
    exact ⟨1, h1, ⟨rfl, q1⟩, rfl⟩
theorem mScr_k : ∀ (f : Nat) (s : PS) (L : SL) (z : PS × SL), WFb s.1 → (0 ≤ L.2.2.2 ∧ L.2.2.2 ≤ 30) → SLk L → mScr b n f s L = .inr z → SLk z.2 ∧ z.1.1 = s.1 ∧ (0 ≤ z.2.2.2.2 ∧ z.2.2.2.2 ≤ 30) := by
  intro f
  induction f with
  | zero =>
    intro s L z hW h0 q hm
    injection hm with hm
    subst hm
    exact ⟨q, rfl, h0⟩
  | succ f ih =>
    intro s L z hW h0 q hm
    unfold mScr at hm
    split at hm
    · injection hm with hm
      subst hm
      exact ⟨q, rfl, h0⟩
    · split at hm
      · cases hm
      · next z1 m1 =>
        obtain ⟨a1, a2, a3, a4⟩ := mSS_k hW h0 q m1
        have zz := ih z1.1 z1.2 z (by rw [a2]; exact hW) (by omega) a1 hm
        exact ⟨zz.1, zz.2.1.trans a2, zz.2.2⟩
theorem l220z {Q : Out → Prop} (hQ : Rn (ev 220 30 [AR 268, AI 0, AU] [] (KS r d, h, R)) Q) : Rn (ev 220 11 [AR 268, AI 0, AU] [] (KS r d, h, R)) Q := by
  refine w_iloadn f220_11 rfl ?_
  refine w_if_eq (t := 30) f220_12 (by decide) (fun _ => ?_) (fun e9 => absurd e9 (by decide))
  exact hQ
theorem l220r {h0 : Nat → Nat → Int} {Q : Out → Prop} : ∀ (f : Nat) (s : PS) (L : SL) (h : Nat → Nat → Int), L.2.2.2 + f = 31 → (0 ≤ L.2.2.2 ∧ L.2.2.2 ≤ 30) → WFb s.1 → SLk L → PS2 h0 b n s L h →
    (∀ x h1, SF h0 b n (mScr b n f s L) x h1 → Rn (ev 220 30 [AR 268, AI x, AU] [] (KS r d, h1, R)) Q) → Rn (ev 220 11 [AR 268, AI 1, AU] [] (KS r d, h, R)) Q := by
  intro f
  have k0 := @kd_268 r d
  induction f with
  | zero => intro s L h e1 e2; omega
  | succ f ih =>
    intro s L h e1 e2 hW hk hP hQ
    have a9 := hP.1.2.2.1.1.2.2.2
    refine w_iloadn f220_11 rfl ?_
    refine w_if_eq (t := 30) f220_12 (by decide) (fun e9 => absurd e9 (by decide)) (fun _ => ?_)
    refine w_aloadn f220_15 rfl (by omega) ?_
    refine w_getI f220_16 (by decide) (by assumption) (by (try simp only [hput, hcopy, Nat.reduceEqDiff, Nat.add_left_cancel_iff, Nat.add_right_cancel_iff, Nat.left_eq_add, Nat.add_eq_left, Nat.right_eq_add, Nat.add_eq_right, Nat.reduceAdd, Nat.add_zero, Nat.succ_ne_self, Nat.one_ne_zero, Nat.zero_ne_one, eq_self, and_self, and_true, true_and, and_false, false_and, if_true, if_false, reduceIte, Int.reduceToNat, Int.toNat_natCast, a9]); exact rfl) ?_
    refine w_if_eq (t := 30) f220_19 (by decide) (fun c2 => ?_) (fun c2 => ?_)
    · exact hQ 1 h (by unfold mScr; rw [if_pos (by assumption)]; exact ⟨rfl, hP⟩)
    · refine w_aloadn f220_22 rfl (by omega) ?_
      refine w_qV f220_23 (Or.inl rfl) rfl (by omega) (okd_of (by assumption)) rfl ⟨Nat.le_of_ble_eq_true rfl, rfl, Nat.le_of_ble_eq_true rfl⟩ (en218 _) (s218 hP.1 hP.2.1 hP.2.2 hW e2) (fun o9 ho9 => ?_)
      obtain ⟨x, h1, q1, rfl⟩ := ho9.ex
      refine w_bok (pv218 _ _) ?_
      refine w_istoren f220_26 (Nat.le_of_ble_eq_true rfl) (sto_3_1 rfl) ?_
      refine w_goto (t := 11) f220_27 (by decide) ?_
      cases m1 : mSS b n s L with
      | inl e =>
        rw [m1] at q1
        obtain ⟨rfl, q1⟩ := q1
        exact l220z (hQ 0 h1 (by unfold mScr; rw [if_neg (by assumption), m1]; exact ⟨rfl, q1⟩))
      | inr z =>
        rw [m1] at q1
        obtain ⟨rfl, q1⟩ := q1
        obtain ⟨a1, a2, a3, a4⟩ := mSS_k hW e2 hk m1
        exact ih z.1 z.2 h1 (by omega) (by omega) (by rw [a2]; exact hW) a1 q1 (fun x h2 q2 => hQ x h2 (by unfold mScr; rw [if_neg (by assumption), m1]; exact q2))
def SL0 : SL := (fun _ => 0, fun _ => 0, fun _ => 0, 0)
/-- a row more in the history -/
def HQ (h : Nat → Nat → Int) (w : Nat → Int) (h1 : Nat → Nat → Int) : Prop :=
  (h1 268 4 = if h 268 4 = 8 then 8 else h 268 4 + 1) ∧ (∀ i j : Nat, (i : Int) + 1 < h1 268 4 → j < 504 → h1 272 (504 * i + j) = h 272 (504 * (if h 268 4 = 8 then i + 1 else i) + j))
  ∧ (∀ i j : Nat, (i : Int) + 1 = h1 268 4 → j < 504 → h1 272 (504 * i + j) = w j)
def mRun (b : Nat → Int) (n : Int) (w nn : Nat → Int) : PM2 := mScr b n 31 (w, tok b n 0, nn) SL0
def RuQ (r d : Nat) (R : R4) (h : Nat → Nat → Int) (N : Int) (m : PM2) : Out → Prop := fun o => match m with
  | .inl e => ∃ h1, (h1 268 6 = 0 ∧ h1 268 13 = 0 ∧ h1 268 14 = e.1 ∧ h1 268 15 = e.2) ∧ (∀ x y, x ≠ 276 → x ≠ 277 → x ≠ 278 → ¬ (x = 268 ∧ (y = 6 ∨ (13 ≤ y ∧ y ≤ 22) ∨ y = 26)) → h1 x y = h x y) ∧ o = (.inl (AI (-1)), (KS r d, h1, R))
  | .inr z => ∃ h1, (h1 268 6 = 0 ∧ h1 268 13 = 0 ∧ h1 268 14 = 0 ∧ h1 268 15 = -1) ∧ HQ h (h 269) h1 ∧ (h1 269 = (mEx z.2 z.2.2.2.2.toNat 0 (h 269)).2 ∧ WFd (mEx z.2 z.2.2.2.2.toNat 0 (h 269)).2 (N + 30))
    ∧ (∀ x y, ¬ scr x y → x ≠ 269 → x ≠ 272 → x ≠ 276 → x ≠ 277 → x ≠ 278 → ¬ (x = 268 ∧ (y = 4 ∨ y = 6 ∨ (13 ≤ y ∧ y ≤ 22) ∨ y = 26)) → h1 x y = h x y) ∧ o = (.inl (AI (mEx z.2 z.2.2.2.2.toNat 0 (h 269)).1), (KS r d, h1, R))
end A

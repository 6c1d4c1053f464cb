/-! the reference runs a script, II -/
section A
variable {K : List AKd} {h : Nat → Nat → Int} {R : R4} {σ : Sg} {r d : Nat} {w : Nat → Int} {b : Nat → Int} {n : Int}
theorem doW_d {N x a c : Int} (h0 : 0 ≤ N) (hN : N < 2000000000) (h2 : x = 2 → (0 ≤ a ∧ a ≤ 2) ∧ (0 ≤ c ∧ c ≤ 9)) (q : WFd w N) : WFd (doW w x a c).2 (N + 1) := by
  unfold doW
  split
  · exact firW_d hN q
  · split
    · next e =>
      split
      · exact (set_d (h2 e).1 (h2 e).2 q).up (by omega)
      · exact q.up (by omega)
    · split
      · exact (g2sW_d q).up (by omega)
      · exact clrW_d (by omega) (q.up (by omega))
def SLk (L : SL) : Prop := ∀ k : Nat, (k : Int) < L.2.2.2 → L.1 k = 2 → (0 ≤ L.2.1 k ∧ L.2.1 k ≤ 2) ∧ (0 ≤ L.2.2.1 k ∧ L.2.2.1 k ≤ 9)
theorem SLk.push {L : SL} {x a c : Int} (q : SLk L) (h0 : 0 ≤ L.2.2.2) (h2 : x = 2 → (0 ≤ a ∧ a ≤ 2) ∧ (0 ≤ c ∧ c ≤ 9)) : SLk (psh L x a c) := by
  intro k hk hx
  have hk' : (k : Int) < L.2.2.2 + 1 := hk
  unfold psh udI at hx ⊢
  by_cases e : k = L.2.2.2.toNat
  · have hx' : (if k = L.2.2.2.toNat then x else L.1 k) = 2 := hx
    rw [if_pos e] at hx'
    show (0 ≤ (if k = L.2.2.2.toNat then a else L.2.1 k) ∧ (if k = L.2.2.2.toNat then a else L.2.1 k) ≤ 2) ∧ (0 ≤ (if k = L.2.2.2.toNat then c else L.2.2.1 k) ∧ (if k = L.2.2.2.toNat then c else L.2.2.1 k) ≤ 9)
    rw [if_pos e, if_pos e]
    exact h2 hx'
  · have hx' : (if k = L.2.2.2.toNat then x else L.1 k) = 2 := hx
    rw [if_neg e] at hx'
    show (0 ≤ (if k = L.2.2.2.toNat then a else L.2.1 k) ∧ (if k = L.2.2.2.toNat then a else L.2.1 k) ≤ 2) ∧ (0 ≤ (if k = L.2.2.2.toNat then c else L.2.2.1 k) ∧ (if k = L.2.2.2.toNat then c else L.2.2.1 k) ≤ 9)
    rw [if_neg e, if_neg e]
    exact q k (by omega) hx'
theorem mSS_k {s s1 : PS} {L L1 : SL} (hW : WFb s.1) (h0 : 0 ≤ L.2.2.2 ∧ L.2.2.2 ≤ 30) (q : SLk L) (hm : mSS b n s L = .inr (s1, L1)) : SLk L1 ∧ s1.1 = s.1 ∧ L1.2.2.2 = L.2.2.2 + 1 ∧ L.2.2.2 < 30 := by
  unfold mSS at hm
  split at hm
  · cases hm
  · split at hm
    · cases hm
    · next c1 c2 =>
      split at hm
      · cases hm
      · next s2 m1 =>
        split at hm
        · cases hm
        · next s3 m2 =>
          injection hm with hm
          injection hm with e1 e2
          subst e1 e2
          refine ⟨q.push h0.1 (fun hx => ?_), (mSem_w m2).trans ((mRst_w m1 : s2.1 = (adv b n s).1).trans rfl), rfl, by omega⟩
          rw [hx] at m1
          unfold mRst at m1
          rw [if_neg (by decide), if_pos rfl] at m1
          obtain ⟨s4, m3, m4⟩ := pb_inr m1
          have z3 := mKn_nn hW.2.2.1.1 m3
          have z4 := mNum_nn m4
          have z5 := z4.2.2 0 (by decide)
          have hV := hW.2.2.1.2
          have a0 := z3.2.1
          have a1 : 0 ≤ s4.2.2 0 ∧ s4.2.2 0 < s.1 2 := a0
          exact ⟨by rw [z5]; omega, z4.2.1⟩
def mEx (L : SL) : Nat → Int → (Nat → Int) → Int × (Nat → Int)
  | 0, k, w => (k, w)
  | f + 1, k, w => if (doW w (L.1 k.toNat) (L.2.1 k.toNat) (L.2.2.1 k.toNat)).1 = 0 then (k, (doW w (L.1 k.toNat) (L.2.1 k.toNat) (L.2.2.1 k.toNat)).2) else mEx L f (k + 1) (doW w (L.1 k.toNat) (L.2.1 k.toNat) (L.2.2.1 k.toNat)).2
theorem SLr.ch {L : SL} {h1 : Nat → Nat → Int} (q : SLr L h) (c : Ch h w h1) : SLr L h1 := by
  have o : ∀ y, h1 277 y = h 277 y := fun y => c.2 277 y (by unfold scr; omega) (by decide)
  have o2 : ∀ y, h1 278 y = h 278 y := fun y => c.2 278 y (by unfold scr; omega) (by decide)
  exact ⟨(c.2 268 26 (by unfold scr; omega) (by decide)).trans q.1, fun k hk => ⟨(o _).trans (q.2 k hk).1, (o2 _).trans (q.2 k hk).2.1, (o2 _).trans (q.2 k hk).2.2⟩⟩
theorem l220x {h0 : Nat → Nat → Int} {L : SL} {g : Int} (hL : SLr L h0) (h30 : L.2.2.2 ≤ 30) (hk : SLk L) : ∀ (f : Nat) (k N : Int) (w : Nat → Int) (h : Nat → Nat → Int), 0 ≤ k → k + f = L.2.2.2 → 0 ≤ N → N + f < 2000000000 → WFd w N → Ch h0 w h →
    Rn (ev 220 46 [AR 268, AI g, AI k] [] (KS r d, h, R)) (fun q => ∃ h1, Ch h0 (mEx L f k w).2 h1 ∧ WFd (mEx L f k w).2 (N + f) ∧ q = (.inl (AI (mEx L f k w).1), (KS r d, h1, R))) := by
  intro f
  have k0 := @kd_268 r d
  induction f with
  | zero =>
    intro k N w h p1 p2 p3 p4 hd hC
    have hc := (hL.ch hC).1
    refine w_iloadn f220_46 rfl ?_
    refine w_aloadn f220_47 rfl (by omega) ?_
    refine w_getI f220_48 (by decide) (by assumption) (by (try simp only [hput, hcopy, Nat.reduceEqDiff, Nat.add_left_cancel_iff, Nat.add_right_cancel_iff, Nat.left_eq_add, Nat.add_eq_left, Nat.right_eq_add, Nat.add_eq_right, Nat.reduceAdd, Nat.add_zero, Nat.succ_ne_self, Nat.one_ne_zero, Nat.zero_ne_one, eq_self, and_self, and_true, true_and, and_false, false_and, if_true, if_false, reduceIte, Int.reduceToNat, Int.toNat_natCast, hc]); exact rfl) ?_
    refine w_ic_ge (t := 68) f220_51 (by decide) (fun c1 => ?_) (fun c1 => by omega)
    refine w_iloadn f220_68 rfl ?_
    refine w_iret f220_69 rfl ?_
    exact ⟨_, hC, hd.up (by omega), rfl⟩
  | succ f ih =>
    intro k N w h p1 p2 p3 p4 hd hC
    have hc := (hL.ch hC).1
    have e : ((k.toNat : Nat) : Int) = k := by omega
    have z := s219 (r := r) (d := d) (R := R) (L := L) (k := k.toNat) hC.1 (hL.ch hC) (by omega) h30 hd.1.ft hd.2.1 hd.2.2.1 (hd.2.2.2.1 12 (by omega)).1 (hk _ (by omega))
    have zd := doW_d (w := w) (x := L.1 k.toNat) (a := L.2.1 k.toNat) (c := L.2.2.1 k.toNat) p3 (by omega) (hk k.toNat (by omega)) hd
    rw [e] at z
    unfold mEx
    refine w_iloadn f220_46 rfl ?_
    refine w_aloadn f220_47 rfl (by omega) ?_
    refine w_getI f220_48 (by decide) (by assumption) (by (try simp only [hput, hcopy, Nat.reduceEqDiff, Nat.add_left_cancel_iff, Nat.add_right_cancel_iff, Nat.left_eq_add, Nat.add_eq_left, Nat.right_eq_add, Nat.add_eq_right, Nat.reduceAdd, Nat.add_zero, Nat.succ_ne_self, Nat.one_ne_zero, Nat.zero_ne_one, eq_self, and_self, and_true, true_and, and_false, false_and, if_true, if_false, reduceIte, Int.reduceToNat, Int.toNat_natCast, hc]); exact rfl) ?_
    refine w_ic_ge (t := 68) f220_51 (by decide) (fun c1 => by omega) (fun c1 => ?_)
    refine w_aloadn f220_54 rfl (by omega) ?_
    refine w_iloadn f220_55 rfl ?_
    refine w_qV f220_56 (Or.inl rfl) rfl (by omega) (okd_of (by assumption)) rfl ⟨Nat.le_of_ble_eq_true rfl, rfl, Nat.le_of_ble_eq_true rfl⟩ (en219 _ _) (z) (fun o9 ho9 => ?_)
    obtain ⟨h1, q1, rfl⟩ := ho9
    refine w_bok (pv219 _ _) ?_
    refine w_if_eq (t := 68) f220_59 (by decide) (fun c2 => ?_) (fun c2 => ?_)
    · refine w_iloadn f220_68 rfl ?_
      refine w_iret f220_69 rfl ?_
      rw [if_pos (by assumption)]
      exact ⟨_, hC.tr q1, zd.up (by omega), rfl⟩
    · refine w_iincn f220_62 rfl (by omega) (sto_3_2 rfl) ?_
      refine w_goto (t := 46) f220_65 (by decide) ?_
      rw [if_neg (by assumption), show N + ((f + 1 : Nat) : Int) = N + 1 + f by omega]
      exact ih (k + 1) (N + 1) _ h1 (by omega) (by omega) (by omega) (by omega) zd (hC.tr q1)
end A

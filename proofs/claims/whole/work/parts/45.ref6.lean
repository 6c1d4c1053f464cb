/-! the search in breadth, the reference's -/
section A
variable {K : List AKd} {h : Nat → Nat → Int} {R : R4} {σ : Sg} {r d : Nat} {w : Nat → Int}
def exG (w : Nat → Int) (at_ : Int) : Nat → Int → BS → BS
  | 0, _, S => S
  | n + 1, e, S => exG w at_ n (e + 1) (if (vdt w at_ e).1 = 0 then rc S (vdt w at_ e).2.2 (S.1 at_.toNat + 1) else S)
def ex (w : Nat → Int) (at_ : Int) (S : BS) : BS := exG w at_ (w 1).toNat 0 S
def srG (w : Nat → Int) : Nat → Int → BS → BS
  | 0, _, S => S
  | n + 1, k, S => if k < S.2.2 then srG w n (k + 1) (ex w (S.2.1 k.toNat) S) else S
def S0 : BS := (fun _ => -1, fun _ => 0, 0)
def bfs (w : Nat → Int) (c : Int) : BS := srG w 10001 0 (rc S0 c 0)
/-- what a search does not take back -/
def Ge (S T : BS) : Prop := S.2.2 ≤ T.2.2 ∧ (∀ i : Nat, (i : Int) < S.2.2 → T.2.1 i = S.2.1 i) ∧ ∀ y, S.1 y ≠ -1 → T.1 y = S.1 y
theorem Ge.rf {S : BS} : Ge S S := ⟨Int.le_refl _, fun _ _ => rfl, fun _ _ => rfl⟩
theorem Ge.tr {S T U : BS} (a : Ge S T) (b : Ge T U) : Ge S U := ⟨Int.le_trans a.1 b.1, fun i hi => (b.2.1 i (Int.lt_of_lt_of_le hi a.1)).trans (a.2.1 i hi), fun y hy => (b.2.2 y (by rw [a.2.2 y hy]; exact hy)).trans (a.2.2 y hy)⟩
theorem Ge.go {S : BS} {c m : Int} (hB : 0 ≤ S.2.2) : Ge S (rc S c m) := by
  unfold rc
  split
  · next h3 =>
    refine ⟨by show S.2.2 ≤ S.2.2 + 1; omega, fun i hi => if_neg (by omega), fun y hy => if_neg (fun e => hy (by rw [e]; exact h3))⟩
  · exact Ge.rf
theorem exG_ok {at_ : Int} (hf : WFt w) (h1 : 0 ≤ at_ ∧ at_ ≤ 9999) : ∀ (n : Nat) (e : Int) (S : BS), BI S → S.1 at_.toNat ≠ -1 → BI (exG w at_ n e S) ∧ Ge S (exG w at_ n e S) := by
  intro n
  induction n with
  | zero => intro e S hB _; exact ⟨hB, Ge.rf⟩
  | succ n ih =>
    intro e S hB hs
    have h2 := hB.2.1 at_.toNat (by omega)
    have h3 := hB.n
    show BI (exG w at_ n (e + 1) _) ∧ Ge S (exG w at_ n (e + 1) _)
    split
    · have g := Ge.go (S := S) (c := (vdt w at_ e).2.2) (m := S.1 at_.toNat + 1) h3.1
      obtain ⟨a1, a2⟩ := ih (e + 1) _ (hB.go (c := (vdt w at_ e).2.2) (m := S.1 at_.toNat + 1) (vdt_r hf h1) (by omega)) (by rw [g.2.2 _ hs]; exact hs)
      exact ⟨a1, g.tr a2⟩
    · exact ih (e + 1) S hB hs
theorem l178e {at_ : Int} (hw : h 269 = w) (hE : w 1 ≤ 8) (hf : WFt w) (h1 : 0 ≤ at_ ∧ at_ ≤ 9999) {c k : Int} {Q : Out → Prop} : ∀ (n : Nat) (e a b : Int) (S : BS), 0 ≤ e → e + n = w 1 → BI S → S.1 at_.toNat ≠ -1 →
    (∀ a1 b1, Rn (ev 178 96 [AR 268, AI c, AI k, AI at_, AI (w 1)] [] (KS r d, bH h (exG w at_ n e S) a1 b1, R)) Q) → Rn (ev 178 53 [AR 268, AI c, AI k, AI at_, AI e] [] (KS r d, bH h S a b, R)) Q := by
  intro n
  have k0 := @kd_268 r d
  have k1 := @kd_269 r d
  have k2 := @kd_273 r d
  induction n with
  | zero =>
    intro e a b S h2 h3 hB hs g
    have hw9 : bH h S a b 269 = w := bH_w hw (by decide)
    refine w_iload f178_53 rfl ?_
    refine w_aloadn f178_55 rfl (by omega) ?_
    refine w_getR f178_56 (by assumption) rfl (by omega) ?_
    refine w_iconst (v := 1) f178_59 (by decide) ?_
    refine w_iald f178_60 (by assumption) (by omega) (by (try simp only [hput, hcopy, Nat.reduceEqDiff, Nat.add_left_cancel_iff, Nat.add_right_cancel_iff, Nat.left_eq_add, Nat.add_eq_left, Nat.right_eq_add, Nat.add_eq_right, Nat.reduceAdd, Nat.add_zero, Nat.succ_ne_self, Nat.one_ne_zero, Nat.zero_ne_one, eq_self, and_self, and_true, true_and, and_false, false_and, if_true, if_false, reduceIte, Int.reduceToNat, Int.toNat_natCast, hw9]); exact rfl) ?_
    refine w_ic_ge (t := 96) f178_61 (by decide) (fun c1 => ?_) (fun c1 => by omega)
    rw [show e = w 1 by omega]
    exact g a b
  | succ n ih =>
    intro e a b S h2 h3 hB hs g
    have hw9 : bH h S a b 269 = w := bH_w hw (by decide)
    have e1 : ∀ a b, bH h S a b 273 at_.toNat = S.1 at_.toNat := fun a b => bH_st (by omega)
    have e2 : ∀ a b, bH h S a b 268 8 = b := fun a b => rfl
    have hn := hB.n
    have hs2 := hB.2.1 at_.toNat (by omega)
    have hv := vdt_r (e := e) hf h1
    refine w_iload f178_53 rfl ?_
    refine w_aloadn f178_55 rfl (by omega) ?_
    refine w_getR f178_56 (by assumption) rfl (by omega) ?_
    refine w_iconst (v := 1) f178_59 (by decide) ?_
    refine w_iald f178_60 (by assumption) (by omega) (by (try simp only [hput, hcopy, Nat.reduceEqDiff, Nat.add_left_cancel_iff, Nat.add_right_cancel_iff, Nat.left_eq_add, Nat.add_eq_left, Nat.right_eq_add, Nat.add_eq_right, Nat.reduceAdd, Nat.add_zero, Nat.succ_ne_self, Nat.one_ne_zero, Nat.zero_ne_one, eq_self, and_self, and_true, true_and, and_false, false_and, if_true, if_false, reduceIte, Int.reduceToNat, Int.toNat_natCast, hw9, e1, e2]); exact rfl) ?_
    refine w_ic_ge (t := 96) f178_61 (by decide) (fun c1 => by omega) (fun c1 => ?_)
    refine w_aloadn f178_64 rfl (by omega) ?_
    refine w_iloadn f178_65 rfl ?_
    refine w_iload f178_66 rfl ?_
    refine w_cV f178_68 (Or.inl rfl) rfl (by omega) (okd_of (by assumption)) rfl ⟨Nat.le_of_ble_eq_true rfl, rfl, Nat.le_of_ble_eq_true rfl⟩ (en175 _ _ _) (s175 (w := w) hw9 hf h1) (pv175 _ _) ?_
    rw [bH_setv]
    refine w_if_ne (t := 90) f178_71 (by decide) (fun c2 => ?_) (fun c2 => ?_)
    · refine w_iincn f178_90 rfl (by omega) (sto_5_4 rfl) ?_
      refine w_goto (t := 53) f178_93 (by decide) ?_
      first | (refine ih _ _ _ _ (by omega) (by omega) hB hs (fun a1 b1 => ?_); have g2 := g a1 b1; simp only [exG, c2, if_false] at g2; exact g2) | (refine ih _ _ _ _ (by omega) (by omega) (hB.go hv (by omega)) (by rw [(Ge.go hn.1).2.2 _ hs]; exact hs) (fun a1 b1 => ?_); have g2 := g a1 b1; simp only [exG, c2, if_true] at g2; exact g2)
    · refine w_aloadn f178_74 rfl (by omega) ?_
      refine w_aloadn f178_75 rfl (by omega) ?_
      refine w_getI f178_76 (by decide) (by assumption) (by (try simp only [hput, hcopy, Nat.reduceEqDiff, Nat.add_left_cancel_iff, Nat.add_right_cancel_iff, Nat.left_eq_add, Nat.add_eq_left, Nat.right_eq_add, Nat.add_eq_right, Nat.reduceAdd, Nat.add_zero, Nat.succ_ne_self, Nat.one_ne_zero, Nat.zero_ne_one, eq_self, and_self, and_true, true_and, and_false, false_and, if_true, if_false, reduceIte, Int.reduceToNat, Int.toNat_natCast, hw9, e1, e2]); exact rfl) ?_
      refine w_aloadn f178_79 rfl (by omega) ?_
      refine w_getR f178_80 (by assumption) rfl (by omega) ?_
      refine w_iloadn f178_83 rfl ?_
      refine w_iald f178_84 (by assumption) (by omega) (by (try simp only [hput, hcopy, Nat.reduceEqDiff, Nat.add_left_cancel_iff, Nat.add_right_cancel_iff, Nat.left_eq_add, Nat.add_eq_left, Nat.right_eq_add, Nat.add_eq_right, Nat.reduceAdd, Nat.add_zero, Nat.succ_ne_self, Nat.one_ne_zero, Nat.zero_ne_one, eq_self, and_self, and_true, true_and, and_false, false_and, if_true, if_false, reduceIte, Int.reduceToNat, Int.toNat_natCast, hw9, e1, e2]); exact rfl) ?_
      refine w_iconst (v := 1) f178_85 (by decide) ?_
      refine w_iaddn f178_86 (by omega) ?_
      refine w_cV f178_87 (Or.inl rfl) rfl (by omega) (okd_of (by assumption)) rfl ⟨Nat.le_of_ble_eq_true rfl, rfl, Nat.le_of_ble_eq_true rfl⟩ (en177 _ _ _) (s177 hB hv) (pv177 _ _) ?_
      refine w_iincn f178_90 rfl (by omega) (sto_5_4 rfl) ?_
      refine w_goto (t := 53) f178_93 (by decide) ?_
      first | (refine ih _ _ _ _ (by omega) (by omega) hB hs (fun a1 b1 => ?_); have g2 := g a1 b1; simp only [exG, c2, if_false] at g2; exact g2) | (refine ih _ _ _ _ (by omega) (by omega) (hB.go hv (by omega)) (by rw [(Ge.go hn.1).2.2 _ hs]; exact hs) (fun a1 b1 => ?_); have g2 := g a1 b1; simp only [exG, c2, if_true] at g2; exact g2)
end A

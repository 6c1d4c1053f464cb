/-! the reference's loadMachine -/
section A
variable {K : List AKd} {h : Nat → Nat → Int} {R : R4} {σ : Sg} {r d : Nat} {w : Nat → Int} {b : Nat → Int} {n : Int}
/-- the cells that a text's reading may change -/
def txc (x y : Nat) : Prop := x = 269 ∨ x = 270 ∨ x = 276 ∨ x = 277 ∨ x = 278 ∨ (x = 268 ∧ (y = 4 ∨ y = 5 ∨ y = 6 ∨ (13 ≤ y ∧ y ≤ 22) ∨ y = 26)) ∨ scr x y
def TxF (h h1 : Nat → Nat → Int) : Prop := ∀ x y, ¬ txc x y → h1 x y = h x y
def LQ (r d : Nat) (R : R4) (h : Nat → Nat → Int) (m : PM) : Out → Prop := fun o => ∃ h1, TxF h h1 ∧ h1 268 6 = 0 ∧ h1 268 13 = 0 ∧ match m with
  | .inl e => o = (.inl (AI (-1)), (KS r d, h1, R)) ∧ h1 268 14 = e.1 ∧ h1 268 15 = e.2.1 ∧ h1 268 4 = h 268 4 ∧ h1 268 5 = h 268 5 ∧ ∀ y, y < 504 → h1 269 y = h 269 y
  | .inr s => o = (.inl (AI (s.1 0)), (KS r d, h1, R)) ∧ h1 268 14 = 0 ∧ h1 268 15 = -1 ∧ h1 268 4 = 0 ∧ h1 268 5 = 0 ∧ h1 269 = udI (g2sW s.1) 59 1
theorem PB.two {h0 : Nat → Nat → Int} {m : PM} {o : Out} (q : PB r d R h0 b n m o) : ∃ (x : Int) (h1 : Nat → Nat → Int), (x = 0 ∨ x = 1) ∧ o = (.inl (AI x), (KS r d, h1, R)) ∧ ((x = 0 ∧ ∃ e, m = .inl e ∧ PF h0 e h1) ∨ (x = 1 ∧ ∃ s, m = .inr s ∧ PX h0 b n s h1)) := by
  rcases pb_cases q with ⟨e, hm, h1, q1, rfl⟩ | ⟨s, hm, h1, q1, rfl⟩
  · exact ⟨0, h1, Or.inl rfl, rfl, Or.inl ⟨rfl, e, hm, q1⟩⟩
  · exact ⟨1, h1, Or.inr rfl, rfl, Or.inr ⟨rfl, s, hm, q1⟩⟩
theorem h0_at {x y : Nat} (h1 : ¬ txc x y) : hput (hcopy (hput h 268 6 0) 269 0 270 0 504) 268 26 0 x y = h x y := by
  unfold txc at h1
  exact (if_neg (by omega)).trans ((if_neg (by omega)).trans (if_neg (by omega)))
theorem l215f {h2 : Nat → Nat → Int} {m : PM} {e : Int × Int × (Nat → Int)} (q : PF (hput (hcopy (hput h 268 6 0) 269 0 270 0 504) 268 26 0) e h2) (hm : m = .inl e) : LQ r d R h m (.inl (AI (-1)), (KS r d, hcopy (hput (hput (hput h2 268 13 0) 268 14 (h2 268 16)) 268 15 (h2 268 17)) 270 0 269 0 504, R)) := by
  subst hm
  obtain ⟨q1, q2, q3, -⟩ := q
  have g : ∀ x y : Nat, x ≠ 269 → hcopy (hput (hput (hput h2 268 13 0) 268 14 (h2 268 16)) 268 15 (h2 268 17)) 270 0 269 0 504 x y = hput (hput (hput h2 268 13 0) 268 14 (h2 268 16)) 268 15 (h2 268 17) x y := fun x y n1 => if_neg (fun z => n1 z.1)
  have g2 : ∀ y : Nat, y ≠ 13 → y ≠ 14 → y ≠ 15 → hput (hput (hput h2 268 13 0) 268 14 (h2 268 16)) 268 15 (h2 268 17) 268 y = h2 268 y := fun y n1 n2 n3 => (hput_j n3).trans ((hput_j n2).trans (hput_j n1))
  refine ⟨_, fun x y hn => ?_, ?_, ?_, rfl, ?_, ?_, ?_, ?_, fun y hy => ?_⟩
  · have hn2 := hn
    unfold txc at hn2
    rw [g x y (by omega)]
    by_cases e1 : x = 268
    · subst e1
      rw [g2 y (by omega) (by omega) (by omega), q3 _ _ (by decide) (by decide) (by omega)]
      exact h0_at hn
    · rw [hput_k e1, hput_k e1, hput_k e1, q3 _ _ (by omega) (by omega) (by omega)]
      exact h0_at hn
  · rw [g 268 6 (by decide), g2 6 (by decide) (by decide) (by decide), q3 _ _ (by decide) (by decide) (by decide)]; rfl
  · rw [g 268 13 (by decide)]; rfl
  · rw [g 268 14 (by decide)]; exact q1
  · rw [g 268 15 (by decide)]; exact q2
  · rw [g 268 4 (by decide), g2 4 (by decide) (by decide) (by decide), q3 _ _ (by decide) (by decide) (by decide)]; rfl
  · rw [g 268 5 (by decide), g2 5 (by decide) (by decide) (by decide), q3 _ _ (by decide) (by decide) (by decide)]; rfl
  · refine (if_pos ⟨rfl, by omega, by omega⟩).trans ?_
    rw [hput_k (by decide), hput_k (by decide), hput_k (by decide), q3 _ _ (by decide) (by decide) (fun z => absurd z.1 (by decide)), hput_k (by decide)]
    refine (if_pos ⟨rfl, by omega, by omega⟩).trans ?_
    rw [hput_k (by decide)]
    exact congrArg (h 269) (show 0 + (0 + (y - 0) - 0) = y by omega)
theorem l215t {h2 h3 : Nat → Nat → Int} {m : PM} {s : PS} (q : PX (hput (hcopy (hput h 268 6 0) 269 0 270 0 504) 268 26 0) b n s h2) (hm : m = .inr s) (q3 : Ch (hput (hput (hput h2 268 13 0) 268 14 (h2 268 16)) 268 15 (h2 268 17)) (udI (g2sW (h2 269)) 59 1) h3) : LQ r d R h m (.inl (AI (s.1 0)), (KS r d, hput (hput h3 268 4 0) 268 5 0, R)) := by
  subst hm
  obtain ⟨-, ⟨p1, p2⟩, -, p3, -, p4⟩ := q
  obtain ⟨c1, c2⟩ := q3
  have g2 : ∀ y : Nat, y ≠ 4 → y ≠ 5 → ¬ scr 268 y → hput (hput h3 268 4 0) 268 5 0 268 y = hput (hput (hput h2 268 13 0) 268 14 (h2 268 16)) 268 15 (h2 268 17) 268 y := fun y n1 n2 n3 => (hput_j n2).trans ((hput_j n1).trans (c2 268 y n3 (by decide)))
  have ns : ∀ y, y ≠ 7 → y ≠ 8 → y ≠ 11 → ¬ scr 268 y := fun y z1 z2 z3 z => by unfold scr at z; omega
  refine ⟨_, fun x y hn => ?_, ?_, ?_, rfl, ?_, ?_, rfl, rfl, ?_⟩
  · have hn2 := hn
    unfold txc at hn2
    have hs : ¬ scr x y := fun z => hn (Or.inr (Or.inr (Or.inr (Or.inr (Or.inr (Or.inr z))))))
    by_cases e1 : x = 268
    · subst e1
      rw [g2 y (by omega) (by omega) hs, hput_j (by omega), hput_j (by omega), hput_j (by omega), p4 _ _ (by decide) (by decide) (by omega)]
      exact h0_at hn
    · rw [hput_k e1, hput_k e1, c2 x y hs (by omega), hput_k e1, hput_k e1, hput_k e1, p4 _ _ (by omega) (by omega) (by omega)]
      exact h0_at hn
  · rw [g2 6 (by decide) (by decide) (ns 6 (by decide) (by decide) (by decide)), hput_j (by decide), hput_j (by decide), hput_j (by decide), p4 _ _ (by decide) (by decide) (by decide)]; rfl
  · rw [g2 13 (by decide) (by decide) (ns 13 (by decide) (by decide) (by decide))]; rfl
  · rw [g2 14 (by decide) (by decide) (ns 14 (by decide) (by decide) (by decide))]; exact p1
  · rw [g2 15 (by decide) (by decide) (ns 15 (by decide) (by decide) (by decide))]; exact p2
  · rw [← p3, ← c1]
    exact funext fun y => (hput_k (by decide)).trans (hput_k (by decide))
set_option maxHeartbeats 4000000 in
theorem s215 (hb : h 275 = b) (hn : h 268 13 = n) (h7 : n ≤ 700) : Rn (ev 215 0 [AR 268, AU] [] (KS r d, h, R)) (LQ r d R h (mTxt b n (h 269) (h 276))) := by
  have k0 := @kd_268 r d
  have k1 := @kd_269 r d
  have k2 := @kd_270 r d
  have hA := s213 (r := r) (d := d) (R := R) (h := hcopy (hput h 268 6 0) 269 0 270 0 504) (b := b) (n := n) hb hn h7
  refine w_aloadn f215_0 rfl (by omega) ?_
  refine w_iconst (v := 0) f215_1 (by decide) ?_
  refine w_putI f215_2 (by assumption) ?_
  refine w_aloadn f215_5 rfl (by omega) ?_
  refine w_getR f215_6 (by assumption) rfl (by omega) ?_
  refine w_iconst (v := 0) f215_9 (by decide) ?_
  refine w_aloadn f215_10 rfl (by omega) ?_
  refine w_getR f215_11 (by assumption) rfl (by omega) ?_
  refine w_iconst (v := 0) f215_14 (by decide) ?_
  refine w_cS f215_15 (Or.inl rfl) (Nat.le_of_ble_eq_true rfl) rfl rfl ⟨Nat.le_of_ble_eq_true rfl, rfl, Nat.le_of_ble_eq_true rfl⟩ (en151 _ _ _ _) (s151 k1 k2 (by decide) (by decide) (by decide) (by decide) (by decide)) (pv151 _ _) ?_
  refine w_aloadn f215_18 rfl (by omega) ?_
  refine w_qV f215_19 (Or.inl rfl) rfl (by omega) (okd_of (by assumption)) rfl ⟨Nat.le_of_ble_eq_true rfl, rfl, Nat.le_of_ble_eq_true rfl⟩ (en213 _) (hA) (fun o9 ho9 => ?_)
  obtain ⟨h1, q1, rfl⟩ := ho9
  refine w_bok (pv213 _ _) ?_
  refine w_aloadn f215_22 rfl (by omega) ?_
  refine w_qV f215_23 (Or.inl rfl) rfl (by omega) (okd_of (by assumption)) rfl ⟨Nat.le_of_ble_eq_true rfl, rfl, Nat.le_of_ble_eq_true rfl⟩ (en212 _) (s212 q1) (fun o9 ho9 => ?_)
  obtain ⟨x, h2, hx, rfl, hxx⟩ := ho9.two
  refine w_bok (pv212 _ _) ?_
  refine w_istoren f215_26 (Nat.le_of_ble_eq_true rfl) (sto_2_1 rfl) ?_
  refine w_aloadn f215_27 rfl (by omega) ?_
  refine w_cV f215_28 (Or.inl rfl) rfl (by omega) (okd_of (by assumption)) rfl ⟨Nat.le_of_ble_eq_true rfl, rfl, Nat.le_of_ble_eq_true rfl⟩ (en214 _) (s214) (pv214 _ _) ?_
  refine w_iloadn f215_31 rfl ?_
  refine w_if_ne (t := 50) f215_32 (by decide) (fun c1 => ?_) (fun c1 => ?_)
  · refine w_aloadn f215_50 rfl (by omega) ?_
    refine w_qV f215_51 (Or.inl rfl) rfl (by omega) (okd_of (by assumption)) rfl ⟨Nat.le_of_ble_eq_true rfl, rfl, Nat.le_of_ble_eq_true rfl⟩ (en161 _) (s161 (w := h2 269) rfl) (fun o9 ho9 => ?_)
    obtain ⟨h3, q3, rfl⟩ := ho9
    refine w_bok (pv161 _ _) ?_
    refine w_aloadn f215_54 rfl (by omega) ?_
    refine w_iconst (v := 0) f215_55 (by decide) ?_
    refine w_putI f215_56 (by assumption) ?_
    refine w_aloadn f215_59 rfl (by omega) ?_
    refine w_iconst (v := 0) f215_60 (by decide) ?_
    refine w_putZ f215_61 (by assumption) (by decide) ?_
    refine w_aloadn f215_64 rfl (by omega) ?_
    refine w_getR f215_65 (by assumption) rfl (by omega) ?_
    refine w_iconst (v := 0) f215_68 (by decide) ?_
    refine w_iald f215_69 (by assumption) (by omega) (by exact (hput_k (by decide)).trans ((hput_k (by decide)).trans ((congrFun q3.1 0).trans rfl))) ?_
    refine w_iret f215_70 rfl ?_
    rcases hxx with ⟨hx0, -⟩ | ⟨-, s, hm, q2⟩
    · omega
    · have e0 : udI (g2sW (h2 269)) 59 1 0 = s.1 0 := by rw [q2.2.2.2.1]; rfl
      rw [e0]
      exact l215t q2 hm q3
  · refine w_aloadn f215_35 rfl (by omega) ?_
    refine w_getR f215_36 (by assumption) rfl (by omega) ?_
    refine w_iconst (v := 0) f215_39 (by decide) ?_
    refine w_aloadn f215_40 rfl (by omega) ?_
    refine w_getR f215_41 (by assumption) rfl (by omega) ?_
    refine w_iconst (v := 0) f215_44 (by decide) ?_
    refine w_cS f215_45 (Or.inl rfl) (Nat.le_of_ble_eq_true rfl) rfl rfl ⟨Nat.le_of_ble_eq_true rfl, rfl, Nat.le_of_ble_eq_true rfl⟩ (en151 _ _ _ _) (s151 k2 k1 (by decide) (by decide) (by decide) (by decide) (by decide)) (pv151 _ _) ?_
    refine w_iconst (v := -1) f215_48 (by decide) ?_
    refine w_iret f215_49 rfl ?_
    rcases hxx with ⟨-, e, hm, q2⟩ | ⟨hx1, -⟩
    · exact l215f q2 hm
    · omega
end A

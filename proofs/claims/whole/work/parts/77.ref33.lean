/-! the reference runs a script, IV -/
section A
variable {K : List AKd} {h : Nat → Nat → Int} {R : R4} {σ : Sg} {r d : Nat} {w : Nat → Int} {b : Nat → Int} {n : Int}
/-- the heap after endsText -/
def enH (h : Nat → Nat → Int) : Nat → Nat → Int := hput (hput (hput h 268 13 0) 268 14 (h 268 16)) 268 15 (h 268 17)
theorem enH_o {x y : Nat} (hn : ¬ (x = 268 ∧ 13 ≤ y ∧ y ≤ 15)) : enH h x y = h x y := by
  unfold enH
  exact (if_neg (by omega)).trans ((if_neg (by omega)).trans (if_neg (by omega)))
theorem enH_c : enH h 268 13 = 0 ∧ enH h 268 14 = h 268 16 ∧ enH h 268 15 = h 268 17 := ⟨rfl, rfl, rfl⟩
theorem enH_w : enH h 269 = h 269 := funext fun _ => enH_o (by omega)
theorem fr220 {h2 : Nat → Nat → Int} (q : FrS (hput (hput h 268 6 0) 268 26 0) h2) : h2 268 6 = 0 ∧ ∀ x y, x ≠ 276 → x ≠ 277 → x ≠ 278 → ¬ (x = 268 ∧ (y = 6 ∨ (16 ≤ y ∧ y ≤ 22) ∨ y = 26)) → h2 x y = h x y :=
  ⟨q 268 6 (by decide) (by decide) (by decide) (by omega), fun x y n1 n2 n3 n4 => (q x y n1 n2 n3 (by omega)).trans ((if_neg (by omega)).trans (if_neg (by omega)))⟩
theorem l220f {N : Int} {h2 : Nat → Nat → Int} {m : PM2} {e : Int × Int} (hm : m = .inl e) (q : FrS (hput (hput h 268 6 0) 268 26 0) h2) (h16 : h2 268 16 = e.1) (h17 : h2 268 17 = e.2) : Rn (ev 220 30 [AR 268, AI 0, AU] [] (KS r d, h2, R)) (RuQ r d R h N m) := by
  subst hm
  have k0 := @kd_268 r d
  obtain ⟨f6, fo⟩ := fr220 q
  refine w_aloadn f220_30 rfl (by omega) ?_
  refine w_cV f220_31 (Or.inl rfl) rfl (by omega) (okd_of (by assumption)) rfl ⟨Nat.le_of_ble_eq_true rfl, rfl, Nat.le_of_ble_eq_true rfl⟩ (en214 _) (s214) (pv214 _ _) ?_
  refine w_iloadn f220_34 rfl ?_
  refine w_if_ne (t := 40) f220_35 (by decide) (fun e9 => absurd e9 (by decide)) (fun _ => ?_)
  refine w_iconst (v := -1) f220_38 (by decide) ?_
  refine w_iret f220_39 rfl ?_
  exact ⟨enH h2, ⟨(enH_o (by omega)).trans f6, rfl, h16, h17⟩, fun x y n1 n2 n3 n4 => (enH_o (by omega)).trans (fo x y n1 n2 n3 (by omega)), rfl⟩
theorem l220w {N : Int} {h2 h5 : Nat → Nat → Int} {z : PS × SL} (h16 : h2 268 16 = 0 ∧ h2 268 17 = -1) (f6 : h2 268 6 = 0) (fo : ∀ x y, x ≠ 276 → x ≠ 277 → x ≠ 278 → ¬ (x = 268 ∧ (y = 6 ∨ (16 ≤ y ∧ y ≤ 22) ∨ y = 26)) → h2 x y = h x y)
    (w3 : enH h2 269 = h 269) (e4 : enH h2 268 4 = h 268 4) (q5 : Rem (enH h2) (h 269) h5) (hL : SLr z.2 h2) (hk : SLk z.2) (h30 : 0 ≤ z.2.2.2.2 ∧ z.2.2.2.2 ≤ 30) (hd : WFd (h 269) N) (h0 : 0 ≤ N) (hN : N < 1000000000) : Rn (ev 220 46 [AR 268, AI 1, AI 0] [] (KS r d, h5, R)) (RuQ r d R h N (.inr z)) := by
  obtain ⟨a1, a2, a3, a4⟩ := q5
  have o : ∀ x y, x ≠ 272 → ¬ (x = 268 ∧ (y = 4 ∨ (13 ≤ y ∧ y ≤ 15))) → h5 x y = h2 x y := fun x y n1 n2 => (a4 x y n1 (by omega)).trans (enH_o (by omega))
  have w5 : h5 269 = h 269 := (funext fun y => a4 269 y (by decide) (by omega)).trans w3
  have hL5 : SLr z.2 h5 := ⟨(o 268 26 (by decide) (by omega)).trans hL.1, fun k h => ⟨(o _ _ (by decide) (by omega)).trans (hL.2 k h).1, (o _ _ (by decide) (by omega)).trans (hL.2 k h).2.1, (o _ _ (by decide) (by omega)).trans (hL.2 k h).2.2⟩⟩
  refine (l220x (g := 1) hL5 h30.2 hk z.2.2.2.2.toNat 0 N (h 269) h5 (by decide) (by omega) h0 (by omega) hd (Ch.rf w5)).mono (fun out hq => ?_)
  obtain ⟨h6, c, hd6, rfl⟩ := hq
  have ns : ∀ y, y ≠ 7 → y ≠ 8 → y ≠ 11 → ¬ scr 268 y := fun y z1 z2 z3 z => by unfold scr at z; omega
  have g : ∀ y, y ≠ 7 → y ≠ 8 → y ≠ 11 → h6 268 y = h5 268 y := fun y z1 z2 z3 => c.2 268 y (ns y z1 z2 z3) (by decide)
  have g4 := g 4 (by decide) (by decide) (by decide)
  have t4 : ∀ i : Nat, h6 272 i = h5 272 i := fun i => c.2 272 i (by unfold scr; omega) (by decide)
  refine ⟨h6, ⟨?_, ?_, ?_, ?_⟩, ⟨?_, ?_, ?_⟩, ⟨c.1, hd6.up (by omega)⟩, ?_, rfl⟩
  · rw [g 6 (by decide) (by decide) (by decide), o 268 6 (by decide) (by omega)]; exact f6
  · rw [g 13 (by decide) (by decide) (by decide), a4 268 13 (by decide) (by omega)]; rfl
  · rw [g 14 (by decide) (by decide) (by decide), a4 268 14 (by decide) (by omega)]; exact h16.1
  · rw [g 15 (by decide) (by decide) (by decide), a4 268 15 (by decide) (by omega)]; exact h16.2
  · rw [g4, a1, e4]
  · intro i j hi hj
    rw [g4] at hi
    rw [t4, a2 i j hi hj, e4]
    exact (enH_o (by omega)).trans (fo _ _ (by decide) (by decide) (by decide) (by omega))
  · intro i j hi hj
    rw [g4] at hi
    rw [t4]
    exact a3 i j hi hj
  · intro x y n0 n1 n2 n3 n4 n5 n6
    exact (c.2 x y n0 n1).trans ((o x y n2 (by omega)).trans (fo x y n3 n4 n5 (by omega)))
theorem l220t {N : Int} {h2 : Nat → Nat → Int} {m : PM2} {z : PS × SL} (hm : m = .inr z) (q : FrS (hput (hput h 268 6 0) 268 26 0) h2) (hP : PX h2 b n z.1 h2) (hL : SLr z.2 h2) (hk : SLk z.2) (h30 : 0 ≤ z.2.2.2.2 ∧ z.2.2.2.2 ≤ 30) (hw : z.1.1 = h 269) (hd : WFd (h 269) N) (h0 : 0 ≤ N) (hN : N < 1000000000) (h4 : 0 ≤ h 268 4 ∧ h 268 4 ≤ 8) : Rn (ev 220 30 [AR 268, AI 1, AU] [] (KS r d, h2, R)) (RuQ r d R h N m) := by
  subst hm
  have k0 := @kd_268 r d
  obtain ⟨f6, fo⟩ := fr220 q
  have w3 : enH h2 269 = h 269 := enH_w.trans (hP.2.2.2.1.trans hw)
  have e4 : enH h2 268 4 = h 268 4 := (enH_o (by omega)).trans (fo 268 4 (by decide) (by decide) (by decide) (by omega))
  have hA := s186 (r := r) (d := d) (R := R) (h := enH h2) (w := h 269) w3 (by rw [e4]; exact h4)
  refine w_aloadn f220_30 rfl (by omega) ?_
  refine w_cV f220_31 (Or.inl rfl) rfl (by omega) (okd_of (by assumption)) rfl ⟨Nat.le_of_ble_eq_true rfl, rfl, Nat.le_of_ble_eq_true rfl⟩ (en214 _) (s214) (pv214 _ _) ?_
  refine w_iloadn f220_34 rfl ?_
  refine w_if_ne (t := 40) f220_35 (by decide) (fun _ => ?_) (fun e9 => absurd e9 (by decide))
  refine w_aloadn f220_40 rfl (by omega) ?_
  refine w_qV f220_41 (Or.inl rfl) rfl (by omega) (okd_of (by assumption)) rfl ⟨Nat.le_of_ble_eq_true rfl, rfl, Nat.le_of_ble_eq_true rfl⟩ (en186 _) (hA) (fun o9 ho9 => ?_)
  obtain ⟨h5, q5, rfl⟩ := ho9
  refine w_bok (pv186 _ _) ?_
  refine w_iconst (v := 0) f220_44 (by decide) ?_
  refine w_istoren f220_45 (Nat.le_of_ble_eq_true rfl) (sto_3_2 rfl) ?_
  exact l220w hP.2.1 f6 fo w3 e4 q5 hL hk h30 hd h0 hN
theorem l220e {N x : Int} {h2 : Nat → Nat → Int} {m : PM2} (hm : mRun b n (h 269) (h 276) = m) (q : SF (hput (hput h 268 6 0) 268 26 0) b n m x h2) (hd : WFd (h 269) N) (h0 : 0 ≤ N) (hN : N < 1000000000) (h4 : 0 ≤ h 268 4 ∧ h 268 4 ≤ 8) : Rn (ev 220 30 [AR 268, AI x, AU] [] (KS r d, h2, R)) (RuQ r d R h N (mRun b n (h 269) (h 276))) := by
  rw [hm]
  cases m with
  | inl e =>
    obtain ⟨rfl, q1, q2, q3⟩ := q
    exact l220f rfl q3 q1 q2
  | inr z =>
    obtain ⟨rfl, q1, q2, q3⟩ := q
    obtain ⟨a1, a2, a3⟩ := mScr_k 31 (h 269, tok b n 0, h 276) SL0 z hd.1.1 (by decide) (fun k hk => absurd hk (show ¬ (k : Int) < 0 by omega)) hm
    exact l220t rfl q3 q1 q2 a1 a3 a2 hd h0 hN h4
theorem s220 {N : Int} (hb : h 275 = b) (hn : h 268 13 = n) (h7 : n ≤ 700) (hd : WFd (h 269) N) (h0 : 0 ≤ N) (hN : N < 1000000000) (h4 : 0 ≤ h 268 4 ∧ h 268 4 ≤ 8) : Rn (ev 220 0 [AR 268, AU, AU] [] (KS r d, h, R)) (RuQ r d R h N (mRun b n (h 269) (h 276))) := by
  have k0 := @kd_268 r d
  have hA := s213 (r := r) (d := d) (R := R) (h := hput h 268 6 0) (b := b) (n := n) (hput_w hb (by decide)) ((hput_j (by decide)).trans hn) h7
  refine w_aloadn f220_0 rfl (by omega) ?_
  refine w_iconst (v := 0) f220_1 (by decide) ?_
  refine w_putI f220_2 (by assumption) ?_
  refine w_aloadn f220_5 rfl (by omega) ?_
  refine w_qV f220_6 (Or.inl rfl) rfl (by omega) (okd_of (by assumption)) rfl ⟨Nat.le_of_ble_eq_true rfl, rfl, Nat.le_of_ble_eq_true rfl⟩ (en213 _) (hA) (fun o9 ho9 => ?_)
  obtain ⟨h1, q1, rfl⟩ := ho9
  refine w_bok (pv213 _ _) ?_
  refine w_iconst (v := 1) f220_9 (by decide) ?_
  refine w_istoren f220_10 (Nat.le_of_ble_eq_true rfl) (sto_3_1 rfl) ?_
  refine l220r (h0 := hput (hput h 268 6 0) 268 26 0) (b := b) (n := n) 31 (h 269, tok b n 0, h 276) SL0 h1 (by decide) (by decide) hd.1.1 (fun k hk => ?_) ⟨q1.re, ⟨(q1.2.2.2.2.2 268 26 (by decide) (by decide) (by omega)).trans hput_s, fun k hk => ?_⟩, ?_⟩ (fun x h2 q2 => ?_)
  · exact absurd hk (show ¬ (k : Int) < 0 by omega)
  · exact absurd hk (show ¬ (k : Int) < 0 by omega)
  · have F : FrS (hput (hput h 268 6 0) 268 26 0) (hput (hput h 268 6 0) 268 26 0) := fun _ _ _ _ _ _ => rfl
    exact F.of (q1.2.2.2.1.trans (show hput (hput h 268 6 0) 268 26 0 269 = h 269 from hput_w (hput_w rfl (by decide)) (by decide)).symm) q1.2.2.2.2.2
  · exact l220e rfl q2 hd h0 hN h4
end A

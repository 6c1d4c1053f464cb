/-! the reference reads a statement of a script -/
section A
variable {K : List AKd} {h : Nat → Nat → Int} {R : R4} {σ : Sg} {r d : Nat} {w : Nat → Int} {b : Nat → Int} {n : Int}
theorem mKn_e {k f c : Int} {s : PS} {e : Int × Int × (Nat → Int)} (hm : mKn b n k f c s = .inl e) : e.2.2 = s.1 := by
  unfold mKn err at hm
  split at hm
  · injection hm with z; rw [← z]
  · split at hm
    · injection hm with z; rw [← z]
    · cases hm
theorem mNum_e {k : Int} {s : PS} {e : Int × Int × (Nat → Int)} (hm : mNum b n k s = .inl e) : e.2.2 = s.1 := by
  unfold mNum err at hm
  split at hm
  · injection hm with z; rw [← z]
  · split at hm
    · injection hm with z; rw [← z]
    · cases hm
theorem mSem_e {s : PS} {e : Int × Int × (Nat → Int)} (hm : mSem b n s = .inl e) : e.2.2 = s.1 := by
  unfold mSem err at hm
  split at hm
  · cases hm
  · injection hm with z; rw [← z]
theorem pb_inl {m : PM} {f : PS → PM} {e : Int × Int × (Nat → Int)} (h : pb m f = .inl e) : m = .inl e ∨ ∃ s, m = .inr s ∧ f s = .inl e := by
  cases m with
  | inl e1 => exact Or.inl h
  | inr s => exact Or.inr ⟨s, rfl, h⟩
theorem mRst_e {x : Int} {s : PS} {e : Int × Int × (Nat → Int)} (hm : mRst b n x s = .inl e) : e.2.2 = s.1 := by
  unfold mRst at hm
  split at hm
  · exact mKn_e hm
  · split at hm
    · rcases pb_inl hm with q | ⟨s1, q, q2⟩
      · exact mKn_e q
      · exact (mNum_e q2).trans (mKn_w q)
    · cases hm
theorem mRst_w {x : Int} {s s1 : PS} (hm : mRst b n x s = .inr s1) : s1.1 = s.1 := by
  unfold mRst at hm
  split at hm
  · exact mKn_w hm
  · split at hm
    · obtain ⟨s2, q, q2⟩ := pb_inr hm
      exact (mNum_w q2).trans (mKn_w q)
    · injection hm with z; rw [z]
theorem mRst_G (h7 : n ≤ 700) {x : Int} {s s1 : PS} (hT : TR s.2.1) (hQ : TQ s.2.1) (hm : mRst b n x s = .inr s1) : GG s s1 := by
  unfold mRst at hm
  split at hm
  · exact mKn_G h7 hT hm
  · split at hm
    · obtain ⟨s2, q, q2⟩ := pb_inr hm
      have g := mKn_G h7 hT q
      exact g.tr (mNum_G h7 g.1 q2)
    · injection hm with z
      subst z
      exact ⟨hT, hQ, Int.le_refl _⟩
theorem PX.st {h0 h' : Nat → Nat → Int} {s : PS} (hP : PX h0 b n s h) (hh : ∀ x y, x ≠ 277 → x ≠ 278 → ¬ (x = 268 ∧ y = 26) → h' x y = h x y) : PX h' b n s h' := by
  obtain ⟨⟨a1, a2, a3⟩, ⟨a4, a5⟩, ⟨⟨a6, a7, a8, a9⟩, a10⟩, a13, a14, a15⟩ := hP
  have g : ∀ y, y ≠ 26 → h' 268 y = h 268 y := fun y hy => hh 268 y (by decide) (by decide) (fun z => hy z.2)
  refine ⟨⟨?_, (g 13 (by decide)).trans a2, a3⟩, ⟨(g 16 (by decide)).trans a4, (g 17 (by decide)).trans a5⟩, ⟨⟨(g 19 (by decide)).trans a6, (g 18 (by decide)).trans a7, (g 20 (by decide)).trans a8, (g 21 (by decide)).trans a9⟩, a10⟩, ?_, ?_, fun _ _ _ _ _ => rfl⟩
  · exact (funext fun y => hh 275 y (by decide) (by decide) (by omega)).trans a1
  · exact (funext fun y => hh 269 y (by decide) (by decide) (by omega)).trans a13
  · exact (funext fun y => hh 276 y (by decide) (by decide) (by omega)).trans a14
theorem FrS.st {h0 h' : Nat → Nat → Int} (q : FrS h0 h) (hh : ∀ x y, x ≠ 277 → x ≠ 278 → ¬ (x = 268 ∧ y = 26) → h' x y = h x y) : FrS h0 h' := fun x y n1 n2 n3 n4 => (hh x y n2 n3 (fun z => n4 ⟨z.1, Or.inr z.2⟩)).trans (q x y n1 n2 n3 n4)
/-- a statement is put behind the others -/
def pshH (h : Nat → Nat → Int) (x a c m : Int) : Nat → Nat → Int := hput (hput (hput (hput h 277 m.toNat x) 278 (2 * m).toNat a) 278 (2 * m + 1).toNat c) 268 26 (m + 1)
theorem pshH_o {x a c m : Int} {i y : Nat} (h1 : i ≠ 277) (h2 : i ≠ 278) (h3 : ¬ (i = 268 ∧ y = 26)) : pshH h x a c m i y = h i y := by
  unfold pshH
  exact (if_neg h3).trans ((if_neg (fun z => h2 z.1)).trans ((if_neg (fun z => h2 z.1)).trans (if_neg (fun z => h1 z.1))))
theorem SLr.push {L : SL} {x a c : Int} (q : SLr L h) (h0 : 0 ≤ L.2.2.2) : SLr (psh L x a c) (pshH h x a c L.2.2.2) := by
  refine ⟨by unfold pshH; exact if_pos ⟨rfl, rfl⟩, fun k hk => ?_⟩
  have hk' : (k : Int) < L.2.2.2 + 1 := hk
  have e1 : pshH h x a c L.2.2.2 277 k = if k = L.2.2.2.toNat then x else h 277 k := by
    unfold pshH
    rw [hput_k (by decide), hput_k (by decide), hput_k (by decide)]
    by_cases e : k = L.2.2.2.toNat
    · rw [if_pos e]; exact if_pos ⟨rfl, e⟩
    · rw [if_neg e]; exact if_neg (fun z => e z.2)
  have e2 : pshH h x a c L.2.2.2 278 (2 * k) = if k = L.2.2.2.toNat then a else h 278 (2 * k) := by
    unfold pshH
    rw [hput_k (by decide), hput_j (by omega)]
    by_cases e : k = L.2.2.2.toNat
    · rw [if_pos e]; exact if_pos ⟨rfl, by omega⟩
    · rw [if_neg e]; exact (if_neg (fun z => by omega)).trans (hput_k (by decide))
  have e3 : pshH h x a c L.2.2.2 278 (2 * k + 1) = if k = L.2.2.2.toNat then c else h 278 (2 * k + 1) := by
    unfold pshH
    rw [hput_k (by decide)]
    by_cases e : k = L.2.2.2.toNat
    · rw [if_pos e]; exact if_pos ⟨rfl, by omega⟩
    · rw [if_neg e]; exact (if_neg (fun z => by omega)).trans ((if_neg (fun z => by omega)).trans (hput_k (by decide)))
  rw [e1, e2, e3]
  by_cases e : k = L.2.2.2.toNat
  · rw [if_pos e, if_pos e, if_pos e]
    unfold psh udI
    exact ⟨(if_pos e).symm, (if_pos e).symm, (if_pos e).symm⟩
  · rw [if_neg e, if_neg e, if_neg e]
    have z := q.2 k (by omega)
    unfold psh udI
    exact ⟨z.1.trans (if_neg e).symm, z.2.1.trans (if_neg e).symm, z.2.2.trans (if_neg e).symm⟩
theorem PB2.f {h0 h1 : Nat → Nat → Int} {m : PM2} {e : Int × Int} (hm : m = .inl e) (q : h1 268 16 = e.1 ∧ h1 268 17 = e.2 ∧ FrS h0 h1) : PB2 r d R h0 b n m (.inl (AI 0), (KS r d, h1, R)) := by
  subst hm
  exact ⟨h1, q, rfl⟩
theorem PB2.t {h0 h1 : Nat → Nat → Int} {m : PM2} {s : PS} {L : SL} (hm : m = .inr (s, L)) (q : PS2 h0 b n s L h1) : PB2 r d R h0 b n m (.inl (AI 1), (KS r d, h1, R)) := by
  subst hm
  exact ⟨h1, q, rfl⟩
theorem s218 {h0 : Nat → Nat → Int} {s : PS} {L : SL} (hP : PX h b n s h) (hL : SLr L h) (hF : FrS h0 h) (hW : WFb s.1) (hm : 0 ≤ L.2.2.2 ∧ L.2.2.2 ≤ 30) : Rn (ev 218 0 [AR 268, AU] [] (KS r d, h, R)) (PB2 r d R h0 b n (mSS b n s L)) := by
  have k0 := @kd_268 r d
  have k1 := @kd_276 r d
  have k2 := @kd_277 r d
  have k3 := @kd_278 r d
  have hc := hL.1
  have hw := hP.2.2.2.1
  refine w_aloadn f218_0 rfl (by omega) ?_
  refine w_cV f218_1 (Or.inl rfl) rfl (by omega) (okd_of (by assumption)) rfl ⟨Nat.le_of_ble_eq_true rfl, rfl, Nat.le_of_ble_eq_true rfl⟩ (en216 _) (s216 hP) (pv216 _ _) ?_
  refine w_istoren f218_4 (Nat.le_of_ble_eq_true rfl) (sto_2_1 rfl) ?_
  refine w_iloadn f218_5 rfl ?_
  refine w_if_ne (t := 15) f218_6 (by decide) (fun c1 => ?_) (fun c1 => ?_)
  · refine w_aloadn f218_15 rfl (by omega) ?_
    refine w_getI f218_16 (by decide) (by assumption) (by (try simp only [hput, hcopy, Nat.reduceEqDiff, Nat.add_left_cancel_iff, Nat.add_right_cancel_iff, Nat.left_eq_add, Nat.add_eq_left, Nat.right_eq_add, Nat.add_eq_right, Nat.reduceAdd, Nat.add_zero, Nat.succ_ne_self, Nat.one_ne_zero, Nat.zero_ne_one, eq_self, and_self, and_true, true_and, and_false, false_and, if_true, if_false, reduceIte, Int.reduceToNat, Int.toNat_natCast, hc]); exact rfl) ?_
    refine w_bipush (v := 30) f218_19 (by decide) ?_
    refine w_ic_ne (t := 30) f218_21 (by decide) (fun c2 => ?_) (fun c2 => ?_)
    · refine w_aloadn f218_30 rfl (by omega) ?_
      refine w_iloadn f218_31 rfl ?_
      refine w_qV f218_32 (Or.inl rfl) rfl (by omega) (okd_of (by assumption)) rfl ⟨Nat.le_of_ble_eq_true rfl, rfl, Nat.le_of_ble_eq_true rfl⟩ (en217 _ _) (s217 (x := scH b s.2.1) hP hW) (fun o9 ho9 => ?_)
      rcases pb_cases ho9 with ⟨e1, m1, h1, q1, rfl⟩ | ⟨s1, m1, h1, q1, rfl⟩
      · refine w_bok (pv217 _ _) ?_
        refine w_if_ne (t := 40) f218_35 (by decide) (fun e9 => absurd e9 (by decide)) (fun _ => ?_)
        refine w_iconst (v := 0) f218_38 (by decide) ?_
        refine w_zret f218_39 rfl (by decide) ?_
        exact PB2.f (e := (e1.1, e1.2.1)) (by unfold mSS; rw [if_neg (show ¬ scH b s.2.1 = 0 by omega), if_neg (show ¬ L.2.2.2 = 30 by omega), m1]) ⟨q1.1, q1.2.1, hF.of (q1.2.2.2.trans ((mRst_e m1).trans hw.symm)) q1.2.2.1⟩
      · refine w_bok (pv217 _ _) ?_
        have hc1 : h1 268 26 = L.2.2.2 := (q1.2.2.2.2.2 268 26 (by decide) (by decide) (by omega)).trans hc
        have hn1 := q1.2.2.2.2.1
        have q3 : PX (pshH h1 (scH b s.2.1) (s1.2.2 0) (s1.2.2 1) L.2.2.2) b n s1 (pshH h1 (scH b s.2.1) (s1.2.2 0) (s1.2.2 1) L.2.2.2) := q1.st (fun x y n1 n2 n3 => pshH_o n1 n2 n3)
        refine w_if_ne (t := 40) f218_35 (by decide) (fun _ => ?_) (fun e9 => absurd e9 (by decide))
        refine w_aloadn f218_40 rfl (by omega) ?_
        refine w_getR f218_41 (by assumption) rfl (by omega) ?_
        refine w_aloadn f218_44 rfl (by omega) ?_
        refine w_getI f218_45 (by decide) (by assumption) (by exact hc1) ?_
        refine w_iloadn f218_48 rfl ?_
        refine w_iast f218_49 (by assumption) (by omega) ?_
        refine w_aloadn f218_50 rfl (by omega) ?_
        refine w_getR f218_51 (by assumption) rfl (by omega) ?_
        refine w_iconst (v := 2) f218_54 (by decide) ?_
        refine w_aloadn f218_55 rfl (by omega) ?_
        refine w_getI f218_56 (by decide) (by assumption) (by exact (hput_k (by decide)).trans hc1) ?_
        refine w_imuln f218_59 (by omega) ?_
        refine w_aloadn f218_60 rfl (by omega) ?_
        refine w_getR f218_61 (by assumption) rfl (by omega) ?_
        refine w_iconst (v := 0) f218_64 (by decide) ?_
        refine w_iald f218_65 (by assumption) (by omega) (by exact (hput_k (by decide)).trans (congrFun hn1 0)) ?_
        refine w_iast f218_66 (by assumption) (by omega) ?_
        refine w_aloadn f218_67 rfl (by omega) ?_
        refine w_getR f218_68 (by assumption) rfl (by omega) ?_
        refine w_iconst (v := 2) f218_71 (by decide) ?_
        refine w_aloadn f218_72 rfl (by omega) ?_
        refine w_getI f218_73 (by decide) (by assumption) (by exact (hput_k (by decide)).trans ((hput_k (by decide)).trans hc1)) ?_
        refine w_imuln f218_76 (by omega) ?_
        refine w_iconst (v := 1) f218_77 (by decide) ?_
        refine w_iaddn f218_78 (by omega) ?_
        refine w_aloadn f218_79 rfl (by omega) ?_
        refine w_getR f218_80 (by assumption) rfl (by omega) ?_
        refine w_iconst (v := 1) f218_83 (by decide) ?_
        refine w_iald f218_84 (by assumption) (by omega) (by exact (hput_k (by decide)).trans ((hput_k (by decide)).trans (congrFun hn1 1))) ?_
        refine w_iast f218_85 (by assumption) (by omega) ?_
        refine w_aloadn f218_86 rfl (by omega) ?_
        refine w_dup f218_87 rfl ?_
        refine w_getI f218_88 (by decide) (by assumption) (by exact (hput_k (by decide)).trans ((hput_k (by decide)).trans ((hput_k (by decide)).trans hc1))) ?_
        refine w_iconst (v := 1) f218_91 (by decide) ?_
        refine w_iaddn f218_92 (by omega) ?_
        refine w_putI f218_93 (by assumption) ?_
        refine w_aloadn f218_96 rfl (by omega) ?_
        refine w_qV f218_97 (Or.inl rfl) rfl (by omega) (okd_of (by assumption)) rfl ⟨Nat.le_of_ble_eq_true rfl, rfl, Nat.le_of_ble_eq_true rfl⟩ (en197 _) (s197 q3) (fun o9 ho9 => ?_)
        rcases pb_cases ho9 with ⟨e2, m2, h2, q2, rfl⟩ | ⟨s2, m2, h2, q2, rfl⟩
        · refine w_bok (pv197 _ _) ?_
          refine w_zret f218_100 rfl (by decide) ?_
          have F1 : FrS h0 h1 := hF.of (q1.2.2.2.1.trans ((mRst_w m1).trans hw.symm)) q1.2.2.2.2.2
          have F2 : FrS h0 (pshH h1 (scH b s.2.1) (s1.2.2 0) (s1.2.2 1) L.2.2.2) := F1.st (fun x y n1 n2 n3 => pshH_o n1 n2 n3)
          have w3 := q3.2.2.2.1
          first | (refine PB2.f (e := (e2.1, e2.2.1)) (by unfold mSS; rw [if_neg (show ¬ scH b s.2.1 = 0 by omega), if_neg (show ¬ L.2.2.2 = 30 by omega), m1]; simp only [m2]) ⟨q2.1, q2.2.1, F2.of (q2.2.2.2.trans ((mSem_e m2).trans w3.symm)) q2.2.2.1⟩; done) | (refine PB2.t (L := psh L (scH b s.2.1) (s1.2.2 0) (s1.2.2 1)) (by unfold mSS; rw [if_neg (show ¬ scH b s.2.1 = 0 by omega), if_neg (show ¬ L.2.2.2 = 30 by omega), m1]; simp only [m2]) ⟨q2.re, ((hL.of q1.2.2.2.2.2).push hm.1).of q2.2.2.2.2.2, F2.of (q2.2.2.2.1.trans ((mSem_w m2).trans w3.symm)) q2.2.2.2.2.2⟩; done)
        · refine w_bok (pv197 _ _) ?_
          refine w_zret f218_100 rfl (by decide) ?_
          have F1 : FrS h0 h1 := hF.of (q1.2.2.2.1.trans ((mRst_w m1).trans hw.symm)) q1.2.2.2.2.2
          have F2 : FrS h0 (pshH h1 (scH b s.2.1) (s1.2.2 0) (s1.2.2 1) L.2.2.2) := F1.st (fun x y n1 n2 n3 => pshH_o n1 n2 n3)
          have w3 := q3.2.2.2.1
          first | (refine PB2.f (e := (e2.1, e2.2.1)) (by unfold mSS; rw [if_neg (show ¬ scH b s.2.1 = 0 by omega), if_neg (show ¬ L.2.2.2 = 30 by omega), m1]; simp only [m2]) ⟨q2.1, q2.2.1, F2.of (q2.2.2.2.trans ((mSem_e m2).trans w3.symm)) q2.2.2.1⟩; done) | (refine PB2.t (L := psh L (scH b s.2.1) (s1.2.2 0) (s1.2.2 1)) (by unfold mSS; rw [if_neg (show ¬ scH b s.2.1 = 0 by omega), if_neg (show ¬ L.2.2.2 = 30 by omega), m1]; simp only [m2]) ⟨q2.re, ((hL.of q1.2.2.2.2.2).push hm.1).of q2.2.2.2.2.2, F2.of (q2.2.2.2.1.trans ((mSem_w m2).trans w3.symm)) q2.2.2.2.2.2⟩; done)
    · refine w_aloadn f218_24 rfl (by omega) ?_
      refine w_iconst (v := 5) f218_25 (by decide) ?_
      refine w_qV f218_26 (Or.inl rfl) rfl (by omega) (okd_of (by assumption)) rfl ⟨Nat.le_of_ble_eq_true rfl, rfl, Nat.le_of_ble_eq_true rfl⟩ (en193 _ _) (s193 hP) (fun o9 ho9 => ?_)
      obtain ⟨h1, q1, rfl⟩ := ho9
      refine w_bok (pv193 _ _) ?_
      refine w_zret f218_29 rfl (by omega) ?_
      exact PB2.f (by unfold mSS; rw [if_neg (show ¬ scH b s.2.1 = 0 by omega), if_pos (show L.2.2.2 = 30 by omega)]) ⟨q1.1, q1.2.1, hF.of (q1.2.2.2.trans hw.symm) q1.2.2.1⟩
  · refine w_aloadn f218_9 rfl (by omega) ?_
    refine w_iconst (v := 1) f218_10 (by decide) ?_
    refine w_qV f218_11 (Or.inl rfl) rfl (by omega) (okd_of (by assumption)) rfl ⟨Nat.le_of_ble_eq_true rfl, rfl, Nat.le_of_ble_eq_true rfl⟩ (en193 _ _) (s193 hP) (fun o9 ho9 => ?_)
    obtain ⟨h1, q1, rfl⟩ := ho9
    refine w_bok (pv193 _ _) ?_
    refine w_zret f218_14 rfl (by omega) ?_
    exact PB2.f (by unfold mSS; rw [if_pos (show scH b s.2.1 = 0 by omega)]) ⟨q1.1, q1.2.1, hF.of (q1.2.2.2.trans hw.symm) q1.2.2.1⟩
end A

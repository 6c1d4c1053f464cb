/-! the class's first machine -/
section A
variable {K : List AKd} {h : Nat → Nat → Int} {R : R4} {σ : Sg} {r d : Nat} {w u : Nat → Int} {b : Nat → Int} {n : Int}
theorem RSt_ld {h1 : Nat → Nat → Int} (hW : WFm u) (hz : ∀ y, 12 ≤ y → y ≤ 92 → u y = 0) (c1 : RCf h1 9 (startW u)) (c2 : RIv h1 11 u) (c3 : BCv h1 16 (startW u / 1000)) : RSt h1 8 (ldM u) := by
  have wi := hW.2.1
  obtain ⟨y9, -, -, -, y8⟩ := stW_v (wi 0 (by decide) (by decide)) (wi 1 (by decide) (by decide)) (wi 2 (by decide) (by decide))
  have eo : ∀ y : Nat, ¬ (5 ≤ y ∧ y ≤ 8) → y ≠ 18 → y ≠ 59 → ldM u y = u y := fun y y1 y2 y3 => (if_neg y3).trans (g2sW_o ⟨y1, y2⟩)
  rw [y9] at c3
  refine ⟨?_, c2.ag hW.1.2.2.2.2 (eo 4 (by omega) (by omega) (by omega)) (fun y y1 y2 => eo y (by omega) (by omega) (by omega)), c3.to ?_ ?_ rfl (fun t ht => ?_) (fun t ht => ?_) (fun t t1 t2 => ?_)⟩
  · have e : hereW (ldM u) = hereW (g2sW u) := hW_ag rfl rfl rfl rfl
    rw [e, hW_g2 hW]
    exact c1
  · exact (eo 12 (by omega) (by omega) (by omega)).trans (hz 12 (by omega) (by omega))
  · exact (eo 17 (by omega) (by omega) (by omega)).trans (hz 17 (by omega) (by omega))
  · exact (eo _ (by omega) (by omega) (by omega)).trans (hz _ (by omega) (by omega))
  · by_cases z : (t : Int) = 0
    · rw [if_pos z, show 59 + t = 59 by omega]
      rfl
    · rw [if_neg z]
      exact (eo _ (by omega) (by omega) (by omega)).trans (hz _ (by omega) (by omega))
  · exact (eo _ (by omega) (by omega) (by omega)).trans (hz _ (by omega) (by omega))
def putL (b : Nat → Int) (n : Int) (l : List Int) : Nat → (Nat → Int)
  | 0 => b
  | k + 1 => udI (putL b n l k) (n + k).toNat (l.getD k 0)
theorem putL_o {l : List Int} {y : Nat} (hn : 0 ≤ n) : ∀ (k : Nat), n + k ≤ y → putL b n l k y = b y
  | 0, _ => rfl
  | k + 1, h => (if_neg (by omega)).trans (putL_o hn k (by omega))
theorem l19 {t : Nat} {h0 : Nat → Nat → Int} (ht : t < am_txt.length) (hn : 0 ≤ n) (hl : n + ((text (t + 1)).length : Int) ≤ 700) : ∀ (f k : Nat) (h : Nat → Nat → Int), k + f = (text (t + 1)).length → Txc h0 (putL b n (text (t + 1)) k) (n + k) h → Rn (ev 19 2 [AR 2, AS (t + 1), AI (k : Int)] [] (KS r d, h, R)) (fun o => ∃ h1, Txc h0 (putL b n (text (t + 1)) (text (t + 1)).length) (n + ((text (t + 1)).length : Int)) h1 ∧ o = (.inl AU, (KS r d, h1, R))) := by
  intro f
  have k2 := @kd_2 r d
  induction f with
  | zero =>
    intro k h e q
    have e : k = (text (t + 1)).length := by omega
    rw [e] at q
    refine w_iloadn f19_2 rfl ?_
    refine w_aloadns f19_3 rfl ?_
    refine w_tlen f19_4 (Nat.le_of_ble_eq_true rfl) (by omega) ?_
    refine w_ic_ge (t := 25) f19_7 (by decide) (fun c1 => ?_) (fun c1 => by omega)
    refine w_ret f19_25 rfl ?_
    exact ⟨h, q, rfl⟩
  | succ f ih =>
    intro k h e q
    refine w_iloadn f19_2 rfl ?_
    refine w_aloadns f19_3 rfl ?_
    refine w_tlen f19_4 (Nat.le_of_ble_eq_true rfl) (by omega) ?_
    refine w_ic_ge (t := 25) f19_7 (by decide) (fun c1 => by omega) (fun c1 => ?_)
    refine w_aloadn f19_10 rfl (by omega) ?_
    refine w_aloadns f19_11 rfl ?_
    refine w_iloadn f19_12 rfl ?_
    refine w_tchar f19_13 (Nat.le_of_ble_eq_true rfl) (by omega) (by omega) rfl ?_
    refine w_qV f19_16 (Or.inl rfl) rfl (by omega) (okd_of (by assumption)) rfl ⟨Nat.le_of_ble_eq_true rfl, rfl, Nat.le_of_ble_eq_true rfl⟩ (en20 _ _) (s20 q ⟨by omega, by omega⟩) (fun o9 ho9 => ?_)
    obtain ⟨h1, q1, rfl⟩ := ho9
    refine w_bok (pv20 _ _) ?_
    refine w_iincn f19_19 rfl (by omega) (sto_3_2 rfl) ?_
    refine w_goto (t := 2) f19_22 (by decide) ?_
    rw [show n + (k : Int) + 1 = n + ((k + 1 : Nat) : Int) by omega] at q1
    exact ih (k + 1) h1 (by omega) q1
theorem n19 {t : Nat} {h0 : Nat → Nat → Int} (ht : t < am_txt.length) (hn : 0 ≤ n) (hl : n + ((text (t + 1)).length : Int) ≤ 700) (q : Txc h0 b n h) : Rn (ev 19 0 [AR 2, AS (t + 1), AU] [] (KS r d, h, R)) (fun o => ∃ h1, Txc h0 (putL b n (text (t + 1)) (text (t + 1)).length) (n + ((text (t + 1)).length : Int)) h1 ∧ o = (.inl AU, (KS r d, h1, R))) := by
  refine w_iconst (v := 0) f19_0 (by decide) ?_
  refine w_istoren f19_1 (Nat.le_of_ble_eq_true rfl) (sto_3_2 rfl) ?_
  exact l19 ht hn hl (text (t + 1)).length 0 h (by omega) (by rw [show n + ((0 : Nat) : Int) = n by omega]; exact q)
def tp1 : Nat → Int := putL cw0 0 (text (22 + 1)) (text (22 + 1)).length
def tp2 : Nat → Int := putL tp1 89 (text (23 + 1)) (text (23 + 1)).length
def tp3 : Nat → Int := putL tp2 222 (text (24 + 1)) (text (24 + 1)).length
def tp4 : Nat → Int := putL tp3 356 (text (25 + 1)) (text (25 + 1)).length
theorem tl23 : ((text (22 + 1)).length : Int) = 89 := by decide +kernel
theorem tl24 : ((text (23 + 1)).length : Int) = 133 := by decide +kernel
theorem tl25 : ((text (24 + 1)).length : Int) = 134 := by decide +kernel
theorem tl26 : ((text (25 + 1)).length : Int) = 49 := by decide +kernel
theorem tp_all : (List.range 405).all (fun y => decide (tp4 y = t0F y ∧ 0 ≤ t0F y)) = true := by decide +kernel
theorem t0F_o {y : Nat} (h : 405 ≤ y) : t0F y = 0 := by
  have e : t0.length = 405 := by decide +kernel
  unfold t0F
  rw [List.getD_eq_getElem?_getD, List.getElem?_eq_none (by omega)]
  rfl
theorem tp4_o {y : Nat} (h : 405 ≤ y) : tp4 y = 0 := by
  have a1 := tl23
  have a2 := tl24
  have a3 := tl25
  have a4 := tl26
  unfold tp4 tp3 tp2 tp1
  rw [putL_o (by decide) _ (by omega), putL_o (by decide) _ (by omega), putL_o (by decide) _ (by omega), putL_o (by decide) _ (by omega)]
  rfl
theorem tp_eq : tp4 = t0F := funext fun y => by
  by_cases hy : y < 405
  · exact (of_decide_eq_true (List.all_eq_true.mp tp_all y (List.mem_range.mpr hy))).1
  · rw [tp4_o (by omega), t0F_o (by omega)]
theorem t0F_p (y : Nat) : 0 ≤ t0F y := by
  by_cases hy : y < 405
  · exact (of_decide_eq_true (List.all_eq_true.mp tp_all y (List.mem_range.mpr hy))).2
  · rw [t0F_o (by omega)]
    decide
/-- the class when its first machine stands -/
theorem w00_W : WFm w00 ∧ (∀ y, 12 ≤ y → y ≤ 92 → w00 y = 0) ∧ (0 ≤ startW w00 ∧ startW w00 ≤ 9999) := by
  obtain ⟨s, hm, hs⟩ := t0_ok
  obtain ⟨hW, hZ⟩ := mTxt_z (by decide) hm
  rw [hs] at hW hZ
  have wi := hW.2.1
  obtain ⟨y9, -, -, -, y8⟩ := stW_v (wi 0 (by decide) (by decide)) (wi 1 (by decide) (by decide)) (wi 2 (by decide) (by decide))
  exact ⟨hW, hZ, y8⟩
def Q72 (r : Nat) (h h1 : Nat → Nat → Int) : Prop := (RRl h1 r w00 ∧ RSt h1 8 (ldM w00)) ∧ (h1 2 1 = 0 ∧ ∀ y, 0 ≤ h1 3 y) ∧ ∀ x y, x ≠ 2 → x ≠ 3 → (x < 8 ∨ 21 ≤ x) → (x < r ∨ r + 56 ≤ x) → h1 x y = h x y
theorem n72 (hr : r = 156) (hd : d = 212) (hz : ∀ x y, x ≠ 1 → h x y = 0) : Rn (ev 72 121 [AR 1] [] (KS r d, h, R)) (fun o => ∃ h1, Q72 r h h1 ∧ o = (.inl AU, (KS r d, h1, R))) := by
  have k1 := @kd_1 r d
  have k2 := @kd_2 r d
  have k8 := @kd_8 r d
  have hl := shRl (r := r) (d := d) (show RD2 r from Or.inl hr)
  have l1 := hl.1
  have q0 : Txc h cw0 0 h := ⟨⟨funext fun y => hz 3 y (by decide), hz 2 1 (by decide)⟩, fun _ _ _ _ => rfl⟩
  refine w_aloadn f72_121 rfl (by omega) ?_
  refine w_getR f72_122 (by assumption) rfl (by omega) ?_
  refine w_ldc f72_125 ?_
  refine w_qV f72_127 (Or.inl rfl) rfl (by omega) (okd_of (by assumption)) rfl ⟨Nat.le_of_ble_eq_true rfl, rfl, Nat.le_of_ble_eq_true rfl⟩ (en19 _ _) (n19 (t := 22) (by decide) (by decide) (by have := tl23; omega) q0) (fun o9 ho9 => ?_)
  obtain ⟨h1, q1, rfl⟩ := ho9
  rw [show (0 : Int) + ((text (22 + 1)).length : Int) = 89 by have := tl23; omega] at q1
  refine w_bok (pv19 _ _) ?_
  refine w_aloadn f72_130 rfl (by omega) ?_
  refine w_getR f72_131 (by assumption) rfl (by omega) ?_
  refine w_ldc f72_134 ?_
  refine w_qV f72_136 (Or.inl rfl) rfl (by omega) (okd_of (by assumption)) rfl ⟨Nat.le_of_ble_eq_true rfl, rfl, Nat.le_of_ble_eq_true rfl⟩ (en19 _ _) (n19 (t := 23) (by decide) (by decide) (by have := tl24; omega) q1) (fun o9 ho9 => ?_)
  obtain ⟨h2, q2, rfl⟩ := ho9
  rw [show (89 : Int) + ((text (23 + 1)).length : Int) = 222 by have := tl24; omega] at q2
  refine w_bok (pv19 _ _) ?_
  refine w_aloadn f72_139 rfl (by omega) ?_
  refine w_getR f72_140 (by assumption) rfl (by omega) ?_
  refine w_ldc f72_143 ?_
  refine w_qV f72_145 (Or.inl rfl) rfl (by omega) (okd_of (by assumption)) rfl ⟨Nat.le_of_ble_eq_true rfl, rfl, Nat.le_of_ble_eq_true rfl⟩ (en19 _ _) (n19 (t := 24) (by decide) (by decide) (by have := tl25; omega) q2) (fun o9 ho9 => ?_)
  obtain ⟨h3, q3, rfl⟩ := ho9
  rw [show (222 : Int) + ((text (24 + 1)).length : Int) = 356 by have := tl25; omega] at q3
  refine w_bok (pv19 _ _) ?_
  refine w_aloadn f72_148 rfl (by omega) ?_
  refine w_getR f72_149 (by assumption) rfl (by omega) ?_
  refine w_ldc f72_152 ?_
  refine w_qV f72_154 (Or.inl rfl) rfl (by omega) (okd_of (by assumption)) rfl ⟨Nat.le_of_ble_eq_true rfl, rfl, Nat.le_of_ble_eq_true rfl⟩ (en19 _ _) (n19 (t := 25) (by decide) (by decide) (by have := tl26; omega) q3) (fun o9 ho9 => ?_)
  obtain ⟨h4, q4, rfl⟩ := ho9
  rw [show (356 : Int) + ((text (25 + 1)).length : Int) = 405 by have := tl26; omega] at q4
  have q5 : Txc h t0F 405 h4 := by rw [← tp_eq]; exact q4
  refine w_bok (pv19 _ _) ?_
  refine w_aloadn f72_157 rfl (by omega) ?_
  refine w_getR f72_158 (by assumption) rfl (by omega) ?_
  refine w_aloadn f72_161 rfl (by omega) ?_
  refine w_getR f72_162 (by assumption) rfl (by omega) ?_
  refine w_qV f72_165 (Or.inl rfl) rfl (by omega) (okd_of (by assumption)) rfl ⟨Nat.le_of_ble_eq_true rfl, rfl, Nat.le_of_ble_eq_true rfl⟩ (en49 _ _) (s49 (w := fun _ => 0) (nn := fun _ => 0) hl (by omega) ((q5.2 _ _ (by omega) (by omega)).trans (hz _ _ (by omega))) q5.1.1 q5.1.2 (by decide) t0F_p) (fun o9 ho9 => ?_)
  obtain ⟨s, hm, hs⟩ := t0_ok
  rcases ho9 with ⟨s1, h5, ⟨m1, m2, m3, m4⟩, rfl⟩ | ⟨e, h5, ⟨m1, m2, m3⟩, rfl⟩
  rotate_left
  · rw [hm] at m1
    cases m1
  rw [hm] at m1
  cases m1
  rw [hs] at m3
  clear hs hm
  have hW := w00_W.1
  have m6 := m3.1.fr hW.1 (h1 := hput h5 2 1 0) (fun x y z1 z2 => hput_k (by omega))
  refine w_bok (pv49 _ _) ?_
  refine w_aloadn f72_168 rfl (by omega) ?_
  refine w_getR f72_169 (by assumption) rfl (by omega) ?_
  refine w_iconst (v := 0) f72_172 (by decide) ?_
  refine w_putI f72_173 (by assumption) ?_
  refine w_aloadn f72_176 rfl (by omega) ?_
  refine w_getR f72_177 (by assumption) rfl (by omega) ?_
  refine w_aloadn f72_180 rfl (by omega) ?_
  refine w_getR f72_181 (by assumption) rfl (by omega) ?_
  refine w_qV f72_184 (Or.inl rfl) rfl (by omega) (okd_of (by assumption)) rfl ⟨Nat.le_of_ble_eq_true rfl, rfl, Nat.le_of_ble_eq_true rfl⟩ (en66 _ _) (s66 (w := w00) (sh8) hl (by decide) (by omega) (by omega) hW.1.2.2.2.2 w00_W.2.2 m6.2.1 m6.2.2) (fun o9 ho9 => ?_)
  obtain ⟨h6, ⟨o1, c1, c2, c3⟩, rfl⟩ := ho9
  refine w_bok (pv66 _ _) ?_
  refine w_ret f72_187 rfl ?_
  have z1 : ∀ x y, x ≠ 2 → x ≠ 3 → (x < 8 ∨ 21 ≤ x) → (x < r ∨ r + 56 ≤ x) → h6 x y = h x y := fun x y x1 x2 x3 x4 => (o1 x y (by omega)).trans ((hput_k x1).trans ((m4 x y (by omega) (by omega)).trans (q5.2 x y x2 (by omega))))
  refine ⟨h6, ⟨⟨⟨m6.fr hW.1 (fun x y z2 z3 => o1 x y (by omega)), m3.2.fr (fun x y z => (o1 x y (by omega)).trans (hput_k (by omega)))⟩, RSt_ld hW w00_W.2.1 c1 c2 c3⟩, ⟨(o1 2 1 (by decide)).trans hput_s, fun y => ?_⟩, z1⟩, rfl⟩
  rw [o1 3 y (by decide)]
  refine Int.le_trans (t0F_p y) (Int.le_of_eq ?_)
  exact ((hput_k (by decide)).trans (congrFun m2.1.1.1 y)).symm
end A

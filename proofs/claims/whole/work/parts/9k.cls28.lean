/-! the class's reading: transitions that fail -/
section A
variable {K : List AKd} {h : Nat → Nat → Int} {R : R4} {σ : Sg} {r d : Nat} {w : Nat → Int} {b : Nat → Int} {n : Int}
theorem l53f159 {k : Nat} {t v : Int} {e : Int × Int × (Nat → Int)} (hk : ShRl (KS r d) k) (k0 : 3 < k) (hF : FT h b n e) (hp : h k 5 = t) (hp0 : 0 ≤ t ∧ t < 24) : Rn (ev 53 159 [AR k, AR 2, AI t] [AI v, AI t, AR (k + 55)] (KS r d, h, R)) (RfQ r d R h b n k e) := by
  have k2 := @kd_2 r d
  obtain ⟨k1, n1, n2, n3, -, -, a0, a1, a2, a3, a4, a5, a6, a7, a8⟩ := hk
  have n1 := n1.1
  have n2 := n2.1
  have n3 := n3.1
  refine w_iast f53_159 (by assumption) (by omega) ?_
  refine w_aloadn f53_160 rfl (by omega) ?_
  refine w_dup f53_161 rfl ?_
  refine w_getI f53_162 (by decide) (by assumption) (by repeat (first | exact hp | (apply Eq.trans (hput_k (by omega))))) ?_
  refine w_iconst (v := 1) f53_165 (by decide) ?_
  refine w_iaddn f53_166 (by omega) ?_
  refine w_putI f53_167 (by assumption) ?_
  refine w_ret f53_170 rfl ?_
  exact ⟨_, ⟨hF.fr (fun x y z => by (repeat (first | refine Eq.trans hput_s ?_ | refine Eq.trans (hput_k (by omega)) ?_ | refine Eq.trans (hput_j (by first | decide | omega)) ?_ | refine Eq.trans (fiH_in (by omega)) ?_ | refine Eq.trans (fiH_k (by omega)) ?_ | refine Eq.trans (hcp_s (by omega)) ?_ | refine Eq.trans (hcp_k (by omega)) ?_)); rfl), fun x y z1 z2 => by (repeat (first | refine Eq.trans hput_s ?_ | refine Eq.trans (hput_k (by omega)) ?_ | refine Eq.trans (hput_j (by first | decide | omega)) ?_ | refine Eq.trans (fiH_in (by omega)) ?_ | refine Eq.trans (fiH_k (by omega)) ?_ | refine Eq.trans (hcp_s (by omega)) ?_ | refine Eq.trans (hcp_k (by omega)) ?_)); rfl⟩, rfl⟩
theorem l53f149 {k : Nat} {t v : Int} {e : Int × Int × (Nat → Int)} (hk : ShRl (KS r d) k) (k0 : 3 < k) (hF : FT h b n e) (hp : h k 5 = t) (hp0 : 0 ≤ t ∧ t < 24) : Rn (ev 53 149 [AR k, AR 2, AI t] [AI v, AI t, AR (k + 54)] (KS r d, h, R)) (RfQ r d R h b n k e) := by
  have k2 := @kd_2 r d
  obtain ⟨k1, n1, n2, n3, -, -, a0, a1, a2, a3, a4, a5, a6, a7, a8⟩ := hk
  have n1 := n1.1
  have n2 := n2.1
  have n3 := n3.1
  refine w_iast f53_149 (by assumption) (by omega) ?_
  refine w_aloadn f53_150 rfl (by omega) ?_
  refine w_getR f53_151 (by assumption) rfl (by omega) ?_
  refine w_iloadn f53_154 rfl ?_
  refine w_aloadn f53_155 rfl (by omega) ?_
  refine w_cV f53_156 (Or.inl rfl) rfl (by omega) (okd_of (by assumption)) rfl ⟨Nat.le_of_ble_eq_true rfl, rfl, Nat.le_of_ble_eq_true rfl⟩ (en34 _) (x34 hF (fun x y z => by (repeat (first | refine Eq.trans hput_s ?_ | refine Eq.trans (hput_k (by omega)) ?_ | refine Eq.trans (hput_j (by first | decide | omega)) ?_ | refine Eq.trans (fiH_in (by omega)) ?_ | refine Eq.trans (fiH_k (by omega)) ?_ | refine Eq.trans (hcp_s (by omega)) ?_ | refine Eq.trans (hcp_k (by omega)) ?_)); rfl)) (pv34 _ _) ?_
  refine w_iast f53_159 (by assumption) (by omega) ?_
  refine w_aloadn f53_160 rfl (by omega) ?_
  refine w_dup f53_161 rfl ?_
  refine w_getI f53_162 (by decide) (by assumption) (by repeat (first | exact hp | (apply Eq.trans (hput_k (by omega))))) ?_
  refine w_iconst (v := 1) f53_165 (by decide) ?_
  refine w_iaddn f53_166 (by omega) ?_
  refine w_putI f53_167 (by assumption) ?_
  refine w_ret f53_170 rfl ?_
  exact ⟨_, ⟨hF.fr (fun x y z => by (repeat (first | refine Eq.trans hput_s ?_ | refine Eq.trans (hput_k (by omega)) ?_ | refine Eq.trans (hput_j (by first | decide | omega)) ?_ | refine Eq.trans (fiH_in (by omega)) ?_ | refine Eq.trans (fiH_k (by omega)) ?_ | refine Eq.trans (hcp_s (by omega)) ?_ | refine Eq.trans (hcp_k (by omega)) ?_)); rfl), fun x y z1 z2 => by (repeat (first | refine Eq.trans hput_s ?_ | refine Eq.trans (hput_k (by omega)) ?_ | refine Eq.trans (hput_j (by first | decide | omega)) ?_ | refine Eq.trans (fiH_in (by omega)) ?_ | refine Eq.trans (fiH_k (by omega)) ?_ | refine Eq.trans (hcp_s (by omega)) ?_ | refine Eq.trans (hcp_k (by omega)) ?_)); rfl⟩, rfl⟩
theorem l53f139 {k : Nat} {t v : Int} {e : Int × Int × (Nat → Int)} (hk : ShRl (KS r d) k) (k0 : 3 < k) (hF : FT h b n e) (hp : h k 5 = t) (hp0 : 0 ≤ t ∧ t < 24) : Rn (ev 53 139 [AR k, AR 2, AI t] [AI v, AI t, AR (k + 53)] (KS r d, h, R)) (RfQ r d R h b n k e) := by
  have k2 := @kd_2 r d
  obtain ⟨k1, n1, n2, n3, -, -, a0, a1, a2, a3, a4, a5, a6, a7, a8⟩ := hk
  have n1 := n1.1
  have n2 := n2.1
  have n3 := n3.1
  refine w_iast f53_139 (by assumption) (by omega) ?_
  refine w_aloadn f53_140 rfl (by omega) ?_
  refine w_getR f53_141 (by assumption) rfl (by omega) ?_
  refine w_iloadn f53_144 rfl ?_
  refine w_aloadn f53_145 rfl (by omega) ?_
  refine w_cV f53_146 (Or.inl rfl) rfl (by omega) (okd_of (by assumption)) rfl ⟨Nat.le_of_ble_eq_true rfl, rfl, Nat.le_of_ble_eq_true rfl⟩ (en36 _) (x36 hF (fun x y z => by (repeat (first | refine Eq.trans hput_s ?_ | refine Eq.trans (hput_k (by omega)) ?_ | refine Eq.trans (hput_j (by first | decide | omega)) ?_ | refine Eq.trans (fiH_in (by omega)) ?_ | refine Eq.trans (fiH_k (by omega)) ?_ | refine Eq.trans (hcp_s (by omega)) ?_ | refine Eq.trans (hcp_k (by omega)) ?_)); rfl)) (pv36 _ _) ?_
  refine w_iast f53_149 (by assumption) (by omega) ?_
  refine w_aloadn f53_150 rfl (by omega) ?_
  refine w_getR f53_151 (by assumption) rfl (by omega) ?_
  refine w_iloadn f53_154 rfl ?_
  refine w_aloadn f53_155 rfl (by omega) ?_
  refine w_cV f53_156 (Or.inl rfl) rfl (by omega) (okd_of (by assumption)) rfl ⟨Nat.le_of_ble_eq_true rfl, rfl, Nat.le_of_ble_eq_true rfl⟩ (en34 _) (x34 hF (fun x y z => by (repeat (first | refine Eq.trans hput_s ?_ | refine Eq.trans (hput_k (by omega)) ?_ | refine Eq.trans (hput_j (by first | decide | omega)) ?_ | refine Eq.trans (fiH_in (by omega)) ?_ | refine Eq.trans (fiH_k (by omega)) ?_ | refine Eq.trans (hcp_s (by omega)) ?_ | refine Eq.trans (hcp_k (by omega)) ?_)); rfl)) (pv34 _ _) ?_
  refine w_iast f53_159 (by assumption) (by omega) ?_
  refine w_aloadn f53_160 rfl (by omega) ?_
  refine w_dup f53_161 rfl ?_
  refine w_getI f53_162 (by decide) (by assumption) (by repeat (first | exact hp | (apply Eq.trans (hput_k (by omega))))) ?_
  refine w_iconst (v := 1) f53_165 (by decide) ?_
  refine w_iaddn f53_166 (by omega) ?_
  refine w_putI f53_167 (by assumption) ?_
  refine w_ret f53_170 rfl ?_
  exact ⟨_, ⟨hF.fr (fun x y z => by (repeat (first | refine Eq.trans hput_s ?_ | refine Eq.trans (hput_k (by omega)) ?_ | refine Eq.trans (hput_j (by first | decide | omega)) ?_ | refine Eq.trans (fiH_in (by omega)) ?_ | refine Eq.trans (fiH_k (by omega)) ?_ | refine Eq.trans (hcp_s (by omega)) ?_ | refine Eq.trans (hcp_k (by omega)) ?_)); rfl), fun x y z1 z2 => by (repeat (first | refine Eq.trans hput_s ?_ | refine Eq.trans (hput_k (by omega)) ?_ | refine Eq.trans (hput_j (by first | decide | omega)) ?_ | refine Eq.trans (fiH_in (by omega)) ?_ | refine Eq.trans (fiH_k (by omega)) ?_ | refine Eq.trans (hcp_s (by omega)) ?_ | refine Eq.trans (hcp_k (by omega)) ?_)); rfl⟩, rfl⟩
theorem l53f109 {k : Nat} {t v : Int} {e : Int × Int × (Nat → Int)} (hk : ShRl (KS r d) k) (k0 : 3 < k) (hF : FT h b n e) (hp : h k 5 = t) (hp0 : 0 ≤ t ∧ t < 24) : Rn (ev 53 109 [AR k, AR 2, AI t] [AI v, AI t, AR (k + 52)] (KS r d, h, R)) (RfQ r d R h b n k e) := by
  have k2 := @kd_2 r d
  obtain ⟨k1, n1, n2, n3, -, -, a0, a1, a2, a3, a4, a5, a6, a7, a8⟩ := hk
  have n1 := n1.1
  have n2 := n2.1
  have n3 := n3.1
  refine w_iast f53_109 (by assumption) (by omega) ?_
  refine w_aloadn f53_110 rfl (by omega) ?_
  refine w_getR f53_111 (by assumption) rfl (by omega) ?_
  refine w_iloadn f53_114 rfl ?_
  refine w_iconst (v := -1) f53_115 (by decide) ?_
  refine w_iast f53_116 (by assumption) (by omega) ?_
  refine w_aloadn f53_117 rfl (by omega) ?_
  refine w_ldc f53_118 ?_
  refine w_cV f53_120 (Or.inl rfl) rfl (by omega) (okd_of (by assumption)) rfl ⟨Nat.le_of_ble_eq_true rfl, rfl, Nat.le_of_ble_eq_true rfl⟩ (en27 _ _) (x27 (t := 17) hF (by decide) (fun x y z => by (repeat (first | refine Eq.trans hput_s ?_ | refine Eq.trans (hput_k (by omega)) ?_ | refine Eq.trans (hput_j (by first | decide | omega)) ?_ | refine Eq.trans (fiH_in (by omega)) ?_ | refine Eq.trans (fiH_k (by omega)) ?_ | refine Eq.trans (hcp_s (by omega)) ?_ | refine Eq.trans (hcp_k (by omega)) ?_)); rfl)) (pv27 _ _) ?_
  refine w_if_eq (t := 160) f53_123 (by decide) (fun c1 => ?_) (fun c1 => by omega)
  refine w_aloadn f53_160 rfl (by omega) ?_
  refine w_dup f53_161 rfl ?_
  refine w_getI f53_162 (by decide) (by assumption) (by repeat (first | exact hp | (apply Eq.trans (hput_k (by omega))))) ?_
  refine w_iconst (v := 1) f53_165 (by decide) ?_
  refine w_iaddn f53_166 (by omega) ?_
  refine w_putI f53_167 (by assumption) ?_
  refine w_ret f53_170 rfl ?_
  exact ⟨_, ⟨hF.fr (fun x y z => by (repeat (first | refine Eq.trans hput_s ?_ | refine Eq.trans (hput_k (by omega)) ?_ | refine Eq.trans (hput_j (by first | decide | omega)) ?_ | refine Eq.trans (fiH_in (by omega)) ?_ | refine Eq.trans (fiH_k (by omega)) ?_ | refine Eq.trans (hcp_s (by omega)) ?_ | refine Eq.trans (hcp_k (by omega)) ?_)); rfl), fun x y z1 z2 => by (repeat (first | refine Eq.trans hput_s ?_ | refine Eq.trans (hput_k (by omega)) ?_ | refine Eq.trans (hput_j (by first | decide | omega)) ?_ | refine Eq.trans (fiH_in (by omega)) ?_ | refine Eq.trans (fiH_k (by omega)) ?_ | refine Eq.trans (hcp_s (by omega)) ?_ | refine Eq.trans (hcp_k (by omega)) ?_)); rfl⟩, rfl⟩
theorem l53f99 {k : Nat} {t v : Int} {e : Int × Int × (Nat → Int)} (hk : ShRl (KS r d) k) (k0 : 3 < k) (hF : FT h b n e) (hp : h k 5 = t) (hp0 : 0 ≤ t ∧ t < 24) : Rn (ev 53 99 [AR k, AR 2, AI t] [AI v, AI t, AR (k + 51)] (KS r d, h, R)) (RfQ r d R h b n k e) := by
  have k2 := @kd_2 r d
  obtain ⟨k1, n1, n2, n3, -, -, a0, a1, a2, a3, a4, a5, a6, a7, a8⟩ := hk
  have n1 := n1.1
  have n2 := n2.1
  have n3 := n3.1
  refine w_iast f53_99 (by assumption) (by omega) ?_
  refine w_aloadn f53_100 rfl (by omega) ?_
  refine w_getR f53_101 (by assumption) rfl (by omega) ?_
  refine w_iloadn f53_104 rfl ?_
  refine w_aloadn f53_105 rfl (by omega) ?_
  refine w_cV f53_106 (Or.inl rfl) rfl (by omega) (okd_of (by assumption)) rfl ⟨Nat.le_of_ble_eq_true rfl, rfl, Nat.le_of_ble_eq_true rfl⟩ (en34 _) (x34 hF (fun x y z => by (repeat (first | refine Eq.trans hput_s ?_ | refine Eq.trans (hput_k (by omega)) ?_ | refine Eq.trans (hput_j (by first | decide | omega)) ?_ | refine Eq.trans (fiH_in (by omega)) ?_ | refine Eq.trans (fiH_k (by omega)) ?_ | refine Eq.trans (hcp_s (by omega)) ?_ | refine Eq.trans (hcp_k (by omega)) ?_)); rfl)) (pv34 _ _) ?_
  refine w_iast f53_109 (by assumption) (by omega) ?_
  refine w_aloadn f53_110 rfl (by omega) ?_
  refine w_getR f53_111 (by assumption) rfl (by omega) ?_
  refine w_iloadn f53_114 rfl ?_
  refine w_iconst (v := -1) f53_115 (by decide) ?_
  refine w_iast f53_116 (by assumption) (by omega) ?_
  refine w_aloadn f53_117 rfl (by omega) ?_
  refine w_ldc f53_118 ?_
  refine w_cV f53_120 (Or.inl rfl) rfl (by omega) (okd_of (by assumption)) rfl ⟨Nat.le_of_ble_eq_true rfl, rfl, Nat.le_of_ble_eq_true rfl⟩ (en27 _ _) (x27 (t := 17) hF (by decide) (fun x y z => by (repeat (first | refine Eq.trans hput_s ?_ | refine Eq.trans (hput_k (by omega)) ?_ | refine Eq.trans (hput_j (by first | decide | omega)) ?_ | refine Eq.trans (fiH_in (by omega)) ?_ | refine Eq.trans (fiH_k (by omega)) ?_ | refine Eq.trans (hcp_s (by omega)) ?_ | refine Eq.trans (hcp_k (by omega)) ?_)); rfl)) (pv27 _ _) ?_
  refine w_if_eq (t := 160) f53_123 (by decide) (fun c1 => ?_) (fun c1 => by omega)
  refine w_aloadn f53_160 rfl (by omega) ?_
  refine w_dup f53_161 rfl ?_
  refine w_getI f53_162 (by decide) (by assumption) (by repeat (first | exact hp | (apply Eq.trans (hput_k (by omega))))) ?_
  refine w_iconst (v := 1) f53_165 (by decide) ?_
  refine w_iaddn f53_166 (by omega) ?_
  refine w_putI f53_167 (by assumption) ?_
  refine w_ret f53_170 rfl ?_
  exact ⟨_, ⟨hF.fr (fun x y z => by (repeat (first | refine Eq.trans hput_s ?_ | refine Eq.trans (hput_k (by omega)) ?_ | refine Eq.trans (hput_j (by first | decide | omega)) ?_ | refine Eq.trans (fiH_in (by omega)) ?_ | refine Eq.trans (fiH_k (by omega)) ?_ | refine Eq.trans (hcp_s (by omega)) ?_ | refine Eq.trans (hcp_k (by omega)) ?_)); rfl), fun x y z1 z2 => by (repeat (first | refine Eq.trans hput_s ?_ | refine Eq.trans (hput_k (by omega)) ?_ | refine Eq.trans (hput_j (by first | decide | omega)) ?_ | refine Eq.trans (fiH_in (by omega)) ?_ | refine Eq.trans (fiH_k (by omega)) ?_ | refine Eq.trans (hcp_s (by omega)) ?_ | refine Eq.trans (hcp_k (by omega)) ?_)); rfl⟩, rfl⟩
theorem l53f89 {k : Nat} {t v : Int} {e : Int × Int × (Nat → Int)} (hk : ShRl (KS r d) k) (k0 : 3 < k) (hF : FT h b n e) (hp : h k 5 = t) (hp0 : 0 ≤ t ∧ t < 24) : Rn (ev 53 89 [AR k, AR 2, AI t] [AI v, AI t, AR (k + 50)] (KS r d, h, R)) (RfQ r d R h b n k e) := by
  have k2 := @kd_2 r d
  obtain ⟨k1, n1, n2, n3, -, -, a0, a1, a2, a3, a4, a5, a6, a7, a8⟩ := hk
  have n1 := n1.1
  have n2 := n2.1
  have n3 := n3.1
  refine w_iast f53_89 (by assumption) (by omega) ?_
  refine w_aloadn f53_90 rfl (by omega) ?_
  refine w_getR f53_91 (by assumption) rfl (by omega) ?_
  refine w_iloadn f53_94 rfl ?_
  refine w_aloadn f53_95 rfl (by omega) ?_
  refine w_cV f53_96 (Or.inl rfl) rfl (by omega) (okd_of (by assumption)) rfl ⟨Nat.le_of_ble_eq_true rfl, rfl, Nat.le_of_ble_eq_true rfl⟩ (en35 _) (x35 hF (fun x y z => by (repeat (first | refine Eq.trans hput_s ?_ | refine Eq.trans (hput_k (by omega)) ?_ | refine Eq.trans (hput_j (by first | decide | omega)) ?_ | refine Eq.trans (fiH_in (by omega)) ?_ | refine Eq.trans (fiH_k (by omega)) ?_ | refine Eq.trans (hcp_s (by omega)) ?_ | refine Eq.trans (hcp_k (by omega)) ?_)); rfl)) (pv35 _ _) ?_
  refine w_iast f53_99 (by assumption) (by omega) ?_
  refine w_aloadn f53_100 rfl (by omega) ?_
  refine w_getR f53_101 (by assumption) rfl (by omega) ?_
  refine w_iloadn f53_104 rfl ?_
  refine w_aloadn f53_105 rfl (by omega) ?_
  refine w_cV f53_106 (Or.inl rfl) rfl (by omega) (okd_of (by assumption)) rfl ⟨Nat.le_of_ble_eq_true rfl, rfl, Nat.le_of_ble_eq_true rfl⟩ (en34 _) (x34 hF (fun x y z => by (repeat (first | refine Eq.trans hput_s ?_ | refine Eq.trans (hput_k (by omega)) ?_ | refine Eq.trans (hput_j (by first | decide | omega)) ?_ | refine Eq.trans (fiH_in (by omega)) ?_ | refine Eq.trans (fiH_k (by omega)) ?_ | refine Eq.trans (hcp_s (by omega)) ?_ | refine Eq.trans (hcp_k (by omega)) ?_)); rfl)) (pv34 _ _) ?_
  refine w_iast f53_109 (by assumption) (by omega) ?_
  refine w_aloadn f53_110 rfl (by omega) ?_
  refine w_getR f53_111 (by assumption) rfl (by omega) ?_
  refine w_iloadn f53_114 rfl ?_
  refine w_iconst (v := -1) f53_115 (by decide) ?_
  refine w_iast f53_116 (by assumption) (by omega) ?_
  refine w_aloadn f53_117 rfl (by omega) ?_
  refine w_ldc f53_118 ?_
  refine w_cV f53_120 (Or.inl rfl) rfl (by omega) (okd_of (by assumption)) rfl ⟨Nat.le_of_ble_eq_true rfl, rfl, Nat.le_of_ble_eq_true rfl⟩ (en27 _ _) (x27 (t := 17) hF (by decide) (fun x y z => by (repeat (first | refine Eq.trans hput_s ?_ | refine Eq.trans (hput_k (by omega)) ?_ | refine Eq.trans (hput_j (by first | decide | omega)) ?_ | refine Eq.trans (fiH_in (by omega)) ?_ | refine Eq.trans (fiH_k (by omega)) ?_ | refine Eq.trans (hcp_s (by omega)) ?_ | refine Eq.trans (hcp_k (by omega)) ?_)); rfl)) (pv27 _ _) ?_
  refine w_if_eq (t := 160) f53_123 (by decide) (fun c1 => ?_) (fun c1 => by omega)
  refine w_aloadn f53_160 rfl (by omega) ?_
  refine w_dup f53_161 rfl ?_
  refine w_getI f53_162 (by decide) (by assumption) (by repeat (first | exact hp | (apply Eq.trans (hput_k (by omega))))) ?_
  refine w_iconst (v := 1) f53_165 (by decide) ?_
  refine w_iaddn f53_166 (by omega) ?_
  refine w_putI f53_167 (by assumption) ?_
  refine w_ret f53_170 rfl ?_
  exact ⟨_, ⟨hF.fr (fun x y z => by (repeat (first | refine Eq.trans hput_s ?_ | refine Eq.trans (hput_k (by omega)) ?_ | refine Eq.trans (hput_j (by first | decide | omega)) ?_ | refine Eq.trans (fiH_in (by omega)) ?_ | refine Eq.trans (fiH_k (by omega)) ?_ | refine Eq.trans (hcp_s (by omega)) ?_ | refine Eq.trans (hcp_k (by omega)) ?_)); rfl), fun x y z1 z2 => by (repeat (first | refine Eq.trans hput_s ?_ | refine Eq.trans (hput_k (by omega)) ?_ | refine Eq.trans (hput_j (by first | decide | omega)) ?_ | refine Eq.trans (fiH_in (by omega)) ?_ | refine Eq.trans (fiH_k (by omega)) ?_ | refine Eq.trans (hcp_s (by omega)) ?_ | refine Eq.trans (hcp_k (by omega)) ?_)); rfl⟩, rfl⟩
theorem l53f59 {k : Nat} {t v : Int} {e : Int × Int × (Nat → Int)} (hk : ShRl (KS r d) k) (k0 : 3 < k) (hF : FT h b n e) (hp : h k 5 = t) (hp0 : 0 ≤ t ∧ t < 24) : Rn (ev 53 59 [AR k, AR 2, AI t] [AI v, AI t, AR (k + 49)] (KS r d, h, R)) (RfQ r d R h b n k e) := by
  have k2 := @kd_2 r d
  obtain ⟨k1, n1, n2, n3, -, -, a0, a1, a2, a3, a4, a5, a6, a7, a8⟩ := hk
  have n1 := n1.1
  have n2 := n2.1
  have n3 := n3.1
  refine w_iast f53_59 (by assumption) (by omega) ?_
  refine w_aloadn f53_60 rfl (by omega) ?_
  refine w_getR f53_61 (by assumption) rfl (by omega) ?_
  refine w_iloadn f53_64 rfl ?_
  refine w_iconst (v := -1) f53_65 (by decide) ?_
  refine w_iast f53_66 (by assumption) (by omega) ?_
  refine w_aloadn f53_67 rfl (by omega) ?_
  refine w_ldc f53_68 ?_
  refine w_cV f53_70 (Or.inl rfl) rfl (by omega) (okd_of (by assumption)) rfl ⟨Nat.le_of_ble_eq_true rfl, rfl, Nat.le_of_ble_eq_true rfl⟩ (en27 _ _) (x27 (t := 16) hF (by decide) (fun x y z => by (repeat (first | refine Eq.trans hput_s ?_ | refine Eq.trans (hput_k (by omega)) ?_ | refine Eq.trans (hput_j (by first | decide | omega)) ?_ | refine Eq.trans (fiH_in (by omega)) ?_ | refine Eq.trans (fiH_k (by omega)) ?_ | refine Eq.trans (hcp_s (by omega)) ?_ | refine Eq.trans (hcp_k (by omega)) ?_)); rfl)) (pv27 _ _) ?_
  refine w_if_eq (t := 110) f53_73 (by decide) (fun c1 => ?_) (fun c1 => by omega)
  refine w_aloadn f53_110 rfl (by omega) ?_
  refine w_getR f53_111 (by assumption) rfl (by omega) ?_
  refine w_iloadn f53_114 rfl ?_
  refine w_iconst (v := -1) f53_115 (by decide) ?_
  refine w_iast f53_116 (by assumption) (by omega) ?_
  refine w_aloadn f53_117 rfl (by omega) ?_
  refine w_ldc f53_118 ?_
  refine w_cV f53_120 (Or.inl rfl) rfl (by omega) (okd_of (by assumption)) rfl ⟨Nat.le_of_ble_eq_true rfl, rfl, Nat.le_of_ble_eq_true rfl⟩ (en27 _ _) (x27 (t := 17) hF (by decide) (fun x y z => by (repeat (first | refine Eq.trans hput_s ?_ | refine Eq.trans (hput_k (by omega)) ?_ | refine Eq.trans (hput_j (by first | decide | omega)) ?_ | refine Eq.trans (fiH_in (by omega)) ?_ | refine Eq.trans (fiH_k (by omega)) ?_ | refine Eq.trans (hcp_s (by omega)) ?_ | refine Eq.trans (hcp_k (by omega)) ?_)); rfl)) (pv27 _ _) ?_
  refine w_if_eq (t := 160) f53_123 (by decide) (fun c2 => ?_) (fun c2 => by omega)
  refine w_aloadn f53_160 rfl (by omega) ?_
  refine w_dup f53_161 rfl ?_
  refine w_getI f53_162 (by decide) (by assumption) (by repeat (first | exact hp | (apply Eq.trans (hput_k (by omega))))) ?_
  refine w_iconst (v := 1) f53_165 (by decide) ?_
  refine w_iaddn f53_166 (by omega) ?_
  refine w_putI f53_167 (by assumption) ?_
  refine w_ret f53_170 rfl ?_
  exact ⟨_, ⟨hF.fr (fun x y z => by (repeat (first | refine Eq.trans hput_s ?_ | refine Eq.trans (hput_k (by omega)) ?_ | refine Eq.trans (hput_j (by first | decide | omega)) ?_ | refine Eq.trans (fiH_in (by omega)) ?_ | refine Eq.trans (fiH_k (by omega)) ?_ | refine Eq.trans (hcp_s (by omega)) ?_ | refine Eq.trans (hcp_k (by omega)) ?_)); rfl), fun x y z1 z2 => by (repeat (first | refine Eq.trans hput_s ?_ | refine Eq.trans (hput_k (by omega)) ?_ | refine Eq.trans (hput_j (by first | decide | omega)) ?_ | refine Eq.trans (fiH_in (by omega)) ?_ | refine Eq.trans (fiH_k (by omega)) ?_ | refine Eq.trans (hcp_s (by omega)) ?_ | refine Eq.trans (hcp_k (by omega)) ?_)); rfl⟩, rfl⟩
theorem l53f46 {k : Nat} {t : Int} {e : Int × Int × (Nat → Int)} (hk : ShRl (KS r d) k) (k0 : 3 < k) (hF : FT h b n e) (hp : h k 5 = t) (hp0 : 0 ≤ t ∧ t < 24) : Rn (ev 53 46 [AR k, AR 2, AI t] [] (KS r d, h, R)) (RfQ r d R h b n k e) := by
  have k2 := @kd_2 r d
  obtain ⟨k1, n1, n2, n3, -, -, a0, a1, a2, a3, a4, a5, a6, a7, a8⟩ := hk
  have n1 := n1.1
  have n2 := n2.1
  have n3 := n3.1
  refine w_aloadn f53_46 rfl (by omega) ?_
  refine w_getR f53_47 (by assumption) rfl (by omega) ?_
  refine w_iloadn f53_50 rfl ?_
  refine w_aloadn f53_51 rfl (by omega) ?_
  refine w_aloadn f53_52 rfl (by omega) ?_
  refine w_getR f53_53 (by assumption) rfl (by omega) ?_
  refine w_cV f53_56 (Or.inl rfl) rfl (by omega) (okd_of (by assumption)) rfl ⟨Nat.le_of_ble_eq_true rfl, rfl, Nat.le_of_ble_eq_true rfl⟩ (en33 _ _) (x33 hF (fun x y z => by (repeat (first | refine Eq.trans hput_s ?_ | refine Eq.trans (hput_k (by omega)) ?_ | refine Eq.trans (hput_j (by first | decide | omega)) ?_ | refine Eq.trans (fiH_in (by omega)) ?_ | refine Eq.trans (fiH_k (by omega)) ?_ | refine Eq.trans (hcp_s (by omega)) ?_ | refine Eq.trans (hcp_k (by omega)) ?_)); rfl)) (pv33 _ _) ?_
  refine w_iast f53_59 (by assumption) (by omega) ?_
  refine w_aloadn f53_60 rfl (by omega) ?_
  refine w_getR f53_61 (by assumption) rfl (by omega) ?_
  refine w_iloadn f53_64 rfl ?_
  refine w_iconst (v := -1) f53_65 (by decide) ?_
  refine w_iast f53_66 (by assumption) (by omega) ?_
  refine w_aloadn f53_67 rfl (by omega) ?_
  refine w_ldc f53_68 ?_
  refine w_cV f53_70 (Or.inl rfl) rfl (by omega) (okd_of (by assumption)) rfl ⟨Nat.le_of_ble_eq_true rfl, rfl, Nat.le_of_ble_eq_true rfl⟩ (en27 _ _) (x27 (t := 16) hF (by decide) (fun x y z => by (repeat (first | refine Eq.trans hput_s ?_ | refine Eq.trans (hput_k (by omega)) ?_ | refine Eq.trans (hput_j (by first | decide | omega)) ?_ | refine Eq.trans (fiH_in (by omega)) ?_ | refine Eq.trans (fiH_k (by omega)) ?_ | refine Eq.trans (hcp_s (by omega)) ?_ | refine Eq.trans (hcp_k (by omega)) ?_)); rfl)) (pv27 _ _) ?_
  refine w_if_eq (t := 110) f53_73 (by decide) (fun c1 => ?_) (fun c1 => by omega)
  refine w_aloadn f53_110 rfl (by omega) ?_
  refine w_getR f53_111 (by assumption) rfl (by omega) ?_
  refine w_iloadn f53_114 rfl ?_
  refine w_iconst (v := -1) f53_115 (by decide) ?_
  refine w_iast f53_116 (by assumption) (by omega) ?_
  refine w_aloadn f53_117 rfl (by omega) ?_
  refine w_ldc f53_118 ?_
  refine w_cV f53_120 (Or.inl rfl) rfl (by omega) (okd_of (by assumption)) rfl ⟨Nat.le_of_ble_eq_true rfl, rfl, Nat.le_of_ble_eq_true rfl⟩ (en27 _ _) (x27 (t := 17) hF (by decide) (fun x y z => by (repeat (first | refine Eq.trans hput_s ?_ | refine Eq.trans (hput_k (by omega)) ?_ | refine Eq.trans (hput_j (by first | decide | omega)) ?_ | refine Eq.trans (fiH_in (by omega)) ?_ | refine Eq.trans (fiH_k (by omega)) ?_ | refine Eq.trans (hcp_s (by omega)) ?_ | refine Eq.trans (hcp_k (by omega)) ?_)); rfl)) (pv27 _ _) ?_
  refine w_if_eq (t := 160) f53_123 (by decide) (fun c2 => ?_) (fun c2 => by omega)
  refine w_aloadn f53_160 rfl (by omega) ?_
  refine w_dup f53_161 rfl ?_
  refine w_getI f53_162 (by decide) (by assumption) (by repeat (first | exact hp | (apply Eq.trans (hput_k (by omega))))) ?_
  refine w_iconst (v := 1) f53_165 (by decide) ?_
  refine w_iaddn f53_166 (by omega) ?_
  refine w_putI f53_167 (by assumption) ?_
  refine w_ret f53_170 rfl ?_
  exact ⟨_, ⟨hF.fr (fun x y z => by (repeat (first | refine Eq.trans hput_s ?_ | refine Eq.trans (hput_k (by omega)) ?_ | refine Eq.trans (hput_j (by first | decide | omega)) ?_ | refine Eq.trans (fiH_in (by omega)) ?_ | refine Eq.trans (fiH_k (by omega)) ?_ | refine Eq.trans (hcp_s (by omega)) ?_ | refine Eq.trans (hcp_k (by omega)) ?_)); rfl), fun x y z1 z2 => by (repeat (first | refine Eq.trans hput_s ?_ | refine Eq.trans (hput_k (by omega)) ?_ | refine Eq.trans (hput_j (by first | decide | omega)) ?_ | refine Eq.trans (fiH_in (by omega)) ?_ | refine Eq.trans (fiH_k (by omega)) ?_ | refine Eq.trans (hcp_s (by omega)) ?_ | refine Eq.trans (hcp_k (by omega)) ?_)); rfl⟩, rfl⟩
theorem l53f39 {k : Nat} {t v : Int} {e : Int × Int × (Nat → Int)} (hk : ShRl (KS r d) k) (k0 : 3 < k) (hF : FT h b n e) (hp : h k 5 = t) (hp0 : 0 ≤ t ∧ t < 24) : Rn (ev 53 39 [AR k, AR 2, AI t] [AI v, AI t, AR (k + 48)] (KS r d, h, R)) (RfQ r d R h b n k e) := by
  have k2 := @kd_2 r d
  obtain ⟨k1, n1, n2, n3, -, -, a0, a1, a2, a3, a4, a5, a6, a7, a8⟩ := hk
  have n1 := n1.1
  have n2 := n2.1
  have n3 := n3.1
  refine w_iast f53_39 (by assumption) (by omega) ?_
  refine w_aloadn f53_40 rfl (by omega) ?_
  refine w_ldc f53_41 ?_
  refine w_cV f53_43 (Or.inl rfl) rfl (by omega) (okd_of (by assumption)) rfl ⟨Nat.le_of_ble_eq_true rfl, rfl, Nat.le_of_ble_eq_true rfl⟩ (en28 _ _) (x28 (t := 15) hF (by decide) (fun x y z => by (repeat (first | refine Eq.trans hput_s ?_ | refine Eq.trans (hput_k (by omega)) ?_ | refine Eq.trans (hput_j (by first | decide | omega)) ?_ | refine Eq.trans (fiH_in (by omega)) ?_ | refine Eq.trans (fiH_k (by omega)) ?_ | refine Eq.trans (hcp_s (by omega)) ?_ | refine Eq.trans (hcp_k (by omega)) ?_)); rfl)) (pv28 _ _) ?_
  refine w_aloadn f53_46 rfl (by omega) ?_
  refine w_getR f53_47 (by assumption) rfl (by omega) ?_
  refine w_iloadn f53_50 rfl ?_
  refine w_aloadn f53_51 rfl (by omega) ?_
  refine w_aloadn f53_52 rfl (by omega) ?_
  refine w_getR f53_53 (by assumption) rfl (by omega) ?_
  refine w_cV f53_56 (Or.inl rfl) rfl (by omega) (okd_of (by assumption)) rfl ⟨Nat.le_of_ble_eq_true rfl, rfl, Nat.le_of_ble_eq_true rfl⟩ (en33 _ _) (x33 hF (fun x y z => by (repeat (first | refine Eq.trans hput_s ?_ | refine Eq.trans (hput_k (by omega)) ?_ | refine Eq.trans (hput_j (by first | decide | omega)) ?_ | refine Eq.trans (fiH_in (by omega)) ?_ | refine Eq.trans (fiH_k (by omega)) ?_ | refine Eq.trans (hcp_s (by omega)) ?_ | refine Eq.trans (hcp_k (by omega)) ?_)); rfl)) (pv33 _ _) ?_
  refine w_iast f53_59 (by assumption) (by omega) ?_
  refine w_aloadn f53_60 rfl (by omega) ?_
  refine w_getR f53_61 (by assumption) rfl (by omega) ?_
  refine w_iloadn f53_64 rfl ?_
  refine w_iconst (v := -1) f53_65 (by decide) ?_
  refine w_iast f53_66 (by assumption) (by omega) ?_
  refine w_aloadn f53_67 rfl (by omega) ?_
  refine w_ldc f53_68 ?_
  refine w_cV f53_70 (Or.inl rfl) rfl (by omega) (okd_of (by assumption)) rfl ⟨Nat.le_of_ble_eq_true rfl, rfl, Nat.le_of_ble_eq_true rfl⟩ (en27 _ _) (x27 (t := 16) hF (by decide) (fun x y z => by (repeat (first | refine Eq.trans hput_s ?_ | refine Eq.trans (hput_k (by omega)) ?_ | refine Eq.trans (hput_j (by first | decide | omega)) ?_ | refine Eq.trans (fiH_in (by omega)) ?_ | refine Eq.trans (fiH_k (by omega)) ?_ | refine Eq.trans (hcp_s (by omega)) ?_ | refine Eq.trans (hcp_k (by omega)) ?_)); rfl)) (pv27 _ _) ?_
  refine w_if_eq (t := 110) f53_73 (by decide) (fun c1 => ?_) (fun c1 => by omega)
  refine w_aloadn f53_110 rfl (by omega) ?_
  refine w_getR f53_111 (by assumption) rfl (by omega) ?_
  refine w_iloadn f53_114 rfl ?_
  refine w_iconst (v := -1) f53_115 (by decide) ?_
  refine w_iast f53_116 (by assumption) (by omega) ?_
  refine w_aloadn f53_117 rfl (by omega) ?_
  refine w_ldc f53_118 ?_
  refine w_cV f53_120 (Or.inl rfl) rfl (by omega) (okd_of (by assumption)) rfl ⟨Nat.le_of_ble_eq_true rfl, rfl, Nat.le_of_ble_eq_true rfl⟩ (en27 _ _) (x27 (t := 17) hF (by decide) (fun x y z => by (repeat (first | refine Eq.trans hput_s ?_ | refine Eq.trans (hput_k (by omega)) ?_ | refine Eq.trans (hput_j (by first | decide | omega)) ?_ | refine Eq.trans (fiH_in (by omega)) ?_ | refine Eq.trans (fiH_k (by omega)) ?_ | refine Eq.trans (hcp_s (by omega)) ?_ | refine Eq.trans (hcp_k (by omega)) ?_)); rfl)) (pv27 _ _) ?_
  refine w_if_eq (t := 160) f53_123 (by decide) (fun c2 => ?_) (fun c2 => by omega)
  refine w_aloadn f53_160 rfl (by omega) ?_
  refine w_dup f53_161 rfl ?_
  refine w_getI f53_162 (by decide) (by assumption) (by repeat (first | exact hp | (apply Eq.trans (hput_k (by omega))))) ?_
  refine w_iconst (v := 1) f53_165 (by decide) ?_
  refine w_iaddn f53_166 (by omega) ?_
  refine w_putI f53_167 (by assumption) ?_
  refine w_ret f53_170 rfl ?_
  exact ⟨_, ⟨hF.fr (fun x y z => by (repeat (first | refine Eq.trans hput_s ?_ | refine Eq.trans (hput_k (by omega)) ?_ | refine Eq.trans (hput_j (by first | decide | omega)) ?_ | refine Eq.trans (fiH_in (by omega)) ?_ | refine Eq.trans (fiH_k (by omega)) ?_ | refine Eq.trans (hcp_s (by omega)) ?_ | refine Eq.trans (hcp_k (by omega)) ?_)); rfl), fun x y z1 z2 => by (repeat (first | refine Eq.trans hput_s ?_ | refine Eq.trans (hput_k (by omega)) ?_ | refine Eq.trans (hput_j (by first | decide | omega)) ?_ | refine Eq.trans (fiH_in (by omega)) ?_ | refine Eq.trans (fiH_k (by omega)) ?_ | refine Eq.trans (hcp_s (by omega)) ?_ | refine Eq.trans (hcp_k (by omega)) ?_)); rfl⟩, rfl⟩
theorem l53f25 {k : Nat} {t v : Int} {e : Int × Int × (Nat → Int)} (hk : ShRl (KS r d) k) (k0 : 3 < k) (hF : FT h b n e) (hp : h k 5 = t) (hp0 : 0 ≤ t ∧ t < 24) : Rn (ev 53 25 [AR k, AR 2, AI t] [AI v, AI t, AR (k + 47)] (KS r d, h, R)) (RfQ r d R h b n k e) := by
  have k2 := @kd_2 r d
  obtain ⟨k1, n1, n2, n3, -, -, a0, a1, a2, a3, a4, a5, a6, a7, a8⟩ := hk
  have n1 := n1.1
  have n2 := n2.1
  have n3 := n3.1
  refine w_iast f53_25 (by assumption) (by omega) ?_
  refine w_aloadn f53_26 rfl (by omega) ?_
  refine w_getR f53_27 (by assumption) rfl (by omega) ?_
  refine w_iloadn f53_30 rfl ?_
  refine w_aloadn f53_31 rfl (by omega) ?_
  refine w_aloadn f53_32 rfl (by omega) ?_
  refine w_getR f53_33 (by assumption) rfl (by omega) ?_
  refine w_cV f53_36 (Or.inl rfl) rfl (by omega) (okd_of (by assumption)) rfl ⟨Nat.le_of_ble_eq_true rfl, rfl, Nat.le_of_ble_eq_true rfl⟩ (en33 _ _) (x33 hF (fun x y z => by (repeat (first | refine Eq.trans hput_s ?_ | refine Eq.trans (hput_k (by omega)) ?_ | refine Eq.trans (hput_j (by first | decide | omega)) ?_ | refine Eq.trans (fiH_in (by omega)) ?_ | refine Eq.trans (fiH_k (by omega)) ?_ | refine Eq.trans (hcp_s (by omega)) ?_ | refine Eq.trans (hcp_k (by omega)) ?_)); rfl)) (pv33 _ _) ?_
  refine w_iast f53_39 (by assumption) (by omega) ?_
  refine w_aloadn f53_40 rfl (by omega) ?_
  refine w_ldc f53_41 ?_
  refine w_cV f53_43 (Or.inl rfl) rfl (by omega) (okd_of (by assumption)) rfl ⟨Nat.le_of_ble_eq_true rfl, rfl, Nat.le_of_ble_eq_true rfl⟩ (en28 _ _) (x28 (t := 15) hF (by decide) (fun x y z => by (repeat (first | refine Eq.trans hput_s ?_ | refine Eq.trans (hput_k (by omega)) ?_ | refine Eq.trans (hput_j (by first | decide | omega)) ?_ | refine Eq.trans (fiH_in (by omega)) ?_ | refine Eq.trans (fiH_k (by omega)) ?_ | refine Eq.trans (hcp_s (by omega)) ?_ | refine Eq.trans (hcp_k (by omega)) ?_)); rfl)) (pv28 _ _) ?_
  refine w_aloadn f53_46 rfl (by omega) ?_
  refine w_getR f53_47 (by assumption) rfl (by omega) ?_
  refine w_iloadn f53_50 rfl ?_
  refine w_aloadn f53_51 rfl (by omega) ?_
  refine w_aloadn f53_52 rfl (by omega) ?_
  refine w_getR f53_53 (by assumption) rfl (by omega) ?_
  refine w_cV f53_56 (Or.inl rfl) rfl (by omega) (okd_of (by assumption)) rfl ⟨Nat.le_of_ble_eq_true rfl, rfl, Nat.le_of_ble_eq_true rfl⟩ (en33 _ _) (x33 hF (fun x y z => by (repeat (first | refine Eq.trans hput_s ?_ | refine Eq.trans (hput_k (by omega)) ?_ | refine Eq.trans (hput_j (by first | decide | omega)) ?_ | refine Eq.trans (fiH_in (by omega)) ?_ | refine Eq.trans (fiH_k (by omega)) ?_ | refine Eq.trans (hcp_s (by omega)) ?_ | refine Eq.trans (hcp_k (by omega)) ?_)); rfl)) (pv33 _ _) ?_
  refine w_iast f53_59 (by assumption) (by omega) ?_
  refine w_aloadn f53_60 rfl (by omega) ?_
  refine w_getR f53_61 (by assumption) rfl (by omega) ?_
  refine w_iloadn f53_64 rfl ?_
  refine w_iconst (v := -1) f53_65 (by decide) ?_
  refine w_iast f53_66 (by assumption) (by omega) ?_
  refine w_aloadn f53_67 rfl (by omega) ?_
  refine w_ldc f53_68 ?_
  refine w_cV f53_70 (Or.inl rfl) rfl (by omega) (okd_of (by assumption)) rfl ⟨Nat.le_of_ble_eq_true rfl, rfl, Nat.le_of_ble_eq_true rfl⟩ (en27 _ _) (x27 (t := 16) hF (by decide) (fun x y z => by (repeat (first | refine Eq.trans hput_s ?_ | refine Eq.trans (hput_k (by omega)) ?_ | refine Eq.trans (hput_j (by first | decide | omega)) ?_ | refine Eq.trans (fiH_in (by omega)) ?_ | refine Eq.trans (fiH_k (by omega)) ?_ | refine Eq.trans (hcp_s (by omega)) ?_ | refine Eq.trans (hcp_k (by omega)) ?_)); rfl)) (pv27 _ _) ?_
  refine w_if_eq (t := 110) f53_73 (by decide) (fun c1 => ?_) (fun c1 => by omega)
  refine w_aloadn f53_110 rfl (by omega) ?_
  refine w_getR f53_111 (by assumption) rfl (by omega) ?_
  refine w_iloadn f53_114 rfl ?_
  refine w_iconst (v := -1) f53_115 (by decide) ?_
  refine w_iast f53_116 (by assumption) (by omega) ?_
  refine w_aloadn f53_117 rfl (by omega) ?_
  refine w_ldc f53_118 ?_
  refine w_cV f53_120 (Or.inl rfl) rfl (by omega) (okd_of (by assumption)) rfl ⟨Nat.le_of_ble_eq_true rfl, rfl, Nat.le_of_ble_eq_true rfl⟩ (en27 _ _) (x27 (t := 17) hF (by decide) (fun x y z => by (repeat (first | refine Eq.trans hput_s ?_ | refine Eq.trans (hput_k (by omega)) ?_ | refine Eq.trans (hput_j (by first | decide | omega)) ?_ | refine Eq.trans (fiH_in (by omega)) ?_ | refine Eq.trans (fiH_k (by omega)) ?_ | refine Eq.trans (hcp_s (by omega)) ?_ | refine Eq.trans (hcp_k (by omega)) ?_)); rfl)) (pv27 _ _) ?_
  refine w_if_eq (t := 160) f53_123 (by decide) (fun c2 => ?_) (fun c2 => by omega)
  refine w_aloadn f53_160 rfl (by omega) ?_
  refine w_dup f53_161 rfl ?_
  refine w_getI f53_162 (by decide) (by assumption) (by repeat (first | exact hp | (apply Eq.trans (hput_k (by omega))))) ?_
  refine w_iconst (v := 1) f53_165 (by decide) ?_
  refine w_iaddn f53_166 (by omega) ?_
  refine w_putI f53_167 (by assumption) ?_
  refine w_ret f53_170 rfl ?_
  exact ⟨_, ⟨hF.fr (fun x y z => by (repeat (first | refine Eq.trans hput_s ?_ | refine Eq.trans (hput_k (by omega)) ?_ | refine Eq.trans (hput_j (by first | decide | omega)) ?_ | refine Eq.trans (fiH_in (by omega)) ?_ | refine Eq.trans (fiH_k (by omega)) ?_ | refine Eq.trans (hcp_s (by omega)) ?_ | refine Eq.trans (hcp_k (by omega)) ?_)); rfl), fun x y z1 z2 => by (repeat (first | refine Eq.trans hput_s ?_ | refine Eq.trans (hput_k (by omega)) ?_ | refine Eq.trans (hput_j (by first | decide | omega)) ?_ | refine Eq.trans (fiH_in (by omega)) ?_ | refine Eq.trans (fiH_k (by omega)) ?_ | refine Eq.trans (hcp_s (by omega)) ?_ | refine Eq.trans (hcp_k (by omega)) ?_)); rfl⟩, rfl⟩
theorem x53 {k : Nat} {t : Int} {e : Int × Int × (Nat → Int)} (hk : ShRl (KS r d) k) (k0 : 3 < k) (hF : FT h b n e) (hp : h k 5 = t) (hp0 : 0 ≤ t ∧ t ≤ 24) : Rn (ev 53 0 [AR k, AR 2, AU] [] (KS r d, h, R)) (RfQ r d R h b n k e) := by
  have k2 := @kd_2 r d
  by_cases z : t < 24
  · have g := fun v => l53f25 (R := R) (v := v) hk k0 hF hp ⟨hp0.1, z⟩
    obtain ⟨k1, n1, n2, n3, -, -, a0, a1, a2, a3, a4, a5, a6, a7, a8⟩ := hk
    have n1 := n1.1
    refine w_aloadn f53_0 rfl (by omega) ?_
    refine w_getI f53_1 (by decide) (by assumption) (by (try simp only [hput, hcopy, Nat.reduceEqDiff, Nat.add_left_cancel_iff, Nat.add_right_cancel_iff, Nat.left_eq_add, Nat.add_eq_left, Nat.right_eq_add, Nat.add_eq_right, Nat.reduceAdd, Nat.add_zero, Nat.succ_ne_self, Nat.one_ne_zero, Nat.zero_ne_one, eq_self, and_self, and_true, true_and, and_false, false_and, if_true, if_false, reduceIte, Int.reduceToNat, Int.toNat_natCast, hp]); exact rfl) ?_
    refine w_istoren f53_4 (Nat.le_of_ble_eq_true rfl) (sto_3_2 rfl) ?_
    refine w_iloadn f53_5 rfl ?_
    refine w_bipush (v := 24) f53_6 (by decide) ?_
    refine w_ic_lt (t := 12) f53_8 (by decide) (fun c1 => ?_) (fun c1 => by omega)
    refine w_aloadn f53_12 rfl (by omega) ?_
    refine w_getR f53_13 (by assumption) rfl (by omega) ?_
    refine w_iloadn f53_16 rfl ?_
    refine w_aloadn f53_17 rfl (by omega) ?_
    refine w_aloadn f53_18 rfl (by omega) ?_
    refine w_getR f53_19 (by assumption) rfl (by omega) ?_
    refine w_cV f53_22 (Or.inl rfl) rfl (by omega) (okd_of (by assumption)) rfl ⟨Nat.le_of_ble_eq_true rfl, rfl, Nat.le_of_ble_eq_true rfl⟩ (en33 _ _) (x33 hF (fun x y z => rfl)) (pv33 _ _) ?_
    exact g _
  · obtain ⟨k1, -⟩ := hk
    refine w_aloadn f53_0 rfl (by omega) ?_
    refine w_getI f53_1 (by decide) (by assumption) (by (try simp only [hput, hcopy, Nat.reduceEqDiff, Nat.add_left_cancel_iff, Nat.add_right_cancel_iff, Nat.left_eq_add, Nat.add_eq_left, Nat.right_eq_add, Nat.add_eq_right, Nat.reduceAdd, Nat.add_zero, Nat.succ_ne_self, Nat.one_ne_zero, Nat.zero_ne_one, eq_self, and_self, and_true, true_and, and_false, false_and, if_true, if_false, reduceIte, Int.reduceToNat, Int.toNat_natCast, hp]); exact rfl) ?_
    refine w_istoren f53_4 (Nat.le_of_ble_eq_true rfl) (sto_3_2 rfl) ?_
    refine w_iloadn f53_5 rfl ?_
    refine w_bipush (v := 24) f53_6 (by decide) ?_
    refine w_ic_lt (t := 12) f53_8 (by decide) (fun c1 => by omega) (fun c1 => ?_)
    refine w_ret f53_11 rfl ?_
    exact ⟨h, ⟨hF, fun _ _ _ _ => rfl⟩, rfl⟩
end A

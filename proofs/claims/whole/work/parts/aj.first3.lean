/-! the reference's first machine: it is what the first text says -/
section A
variable {h : Nat → Nat → Int} {R : R4} {r d : Nat} {w : Nat → Int}
def cw0 : Nat → Int := fun _ => 0
def Tz0 (f : Nat → Int) : Prop := ∀ y, 504 ≤ y → f y = 0
theorem Tz0.u {f : Nat → Int} {j : Nat} {v : Int} (q : Tz0 f) (hj : j < 504) : Tz0 (udI f j v) := fun y hy => (if_neg (by omega)).trans (q y hy)
theorem Tz0.m {f g : Nat → Int} (q : Tz0 f) (m : Mid f g) : Tz0 g := fun y hy => (m y (by omega)).trans (q y hy)
theorem Tz0.nm {f : Nat → Int} {a x1 x2 x3 x4 x5 : Int} (q : Tz0 f) (ha : 0 ≤ a ∧ a ≤ 490) : Tz0 (nmK f a x1 x2 x3 x4 x5) := by
  unfold nmK
  exact (((((q.u (by omega)).u (by omega)).u (by omega)).u (by omega)).u (by omega)).u (by omega)
theorem cz0 : Tz0 cw0 := fun _ _ => rfl
def cw1 : Nat → Int := zr cw0 0 504
theorem cz1 : Tz0 cw1 := fun y hy => if_neg (by omega)
def cw2 : Nat → Int := nmK cw1 357 105 100 108 101 0
theorem cz2 : Tz0 cw2 := cz1.nm (by decide)
def cw3 : Nat → Int := nmK cw2 364 98 117 115 121 0
theorem cz3 : Tz0 cw3 := cz2.nm (by decide)
def cw4 : Nat → Int := nmK cw3 371 102 117 108 108 0
theorem cz4 : Tz0 cw4 := cz3.nm (by decide)
def cw5 : Nat → Int := nmK cw4 427 99 111 105 110 0
theorem cz5 : Tz0 cw5 := cz4.nm (by decide)
def cw6 : Nat → Int := nmK cw5 434 112 117 115 104 0
theorem cz6 : Tz0 cw6 := cz5.nm (by decide)
def cw7 : Nat → Int := nmK cw6 441 116 97 107 101 0
theorem cz7 : Tz0 cw7 := cz6.nm (by decide)
def cw8 : Nat → Int := nmK cw7 483 99 111 105 110 115
theorem cz8 : Tz0 cw8 := cz7.nm (by decide)
def cw9 : Nat → Int := nmK cw8 490 99 117 112 115 0
theorem cz9 : Tz0 cw9 := cz8.nm (by decide)
def cw10 : Nat → Int := udI cw9 0 3
theorem cz10 : Tz0 cw10 := cz9.u (by decide)
def cw11 : Nat → Int := udI cw10 1 3
theorem cz11 : Tz0 cw11 := cz10.u (by decide)
def cw12 : Nat → Int := udI cw11 2 2
theorem cz12 : Tz0 cw12 := cz11.u (by decide)
def cw13 : Nat → Int := udI cw12 10 3
theorem cz13 : Tz0 cw13 := cz12.u (by decide)
def cw14 : Nat → Int := ldW cw13 0 0 1
theorem cb14 : 0 ≤ cw13 3 ∧ cw13 3 ≤ 23 := by decide +kernel
theorem cz14 : Tz0 cw14 := cz13.m (ldW_mid (by have := cb14; omega))
def cw15 : Nat → Int := acsW cw14 0 0 1
theorem cb15 : 1 ≤ cw14 3 ∧ cw14 3 ≤ 24 := by decide +kernel
theorem cz15 : Tz0 cw15 := cz14.m (acsW_mid (by have := cb15; omega))
def cw16 : Nat → Int := ldW cw15 1 0 2
theorem cb16 : 0 ≤ cw15 3 ∧ cw15 3 ≤ 23 := by decide +kernel
theorem cz16 : Tz0 cw16 := cz15.m (ldW_mid (by have := cb16; omega))
def cw17 : Nat → Int := gdW cw16 0 5 2
theorem cb17 : 1 ≤ cw16 3 ∧ cw16 3 ≤ 24 := by decide +kernel
theorem cz17 : Tz0 cw17 := cz16.m (gdW_mid (by have := cb17; omega))
def cw18 : Nat → Int := acsW cw17 0 0 1
theorem cb18 : 1 ≤ cw17 3 ∧ cw17 3 ≤ 24 := by decide +kernel
theorem cz18 : Tz0 cw18 := cz17.m (acsW_mid (by have := cb18; omega))
def cw19 : Nat → Int := ldW cw18 1 0 1
theorem cb19 : 0 ≤ cw18 3 ∧ cw18 3 ≤ 23 := by decide +kernel
theorem cz19 : Tz0 cw19 := cz18.m (ldW_mid (by have := cb19; omega))
def cw20 : Nat → Int := acsW cw19 0 0 1
theorem cb20 : 1 ≤ cw19 3 ∧ cw19 3 ≤ 24 := by decide +kernel
theorem cz20 : Tz0 cw20 := cz19.m (acsW_mid (by have := cb20; omega))
def cw21 : Nat → Int := ldW cw20 1 1 0
theorem cb21 : 0 ≤ cw20 3 ∧ cw20 3 ≤ 23 := by decide +kernel
theorem cz21 : Tz0 cw21 := cz20.m (ldW_mid (by have := cb21; omega))
def cw22 : Nat → Int := gdW cw21 0 4 2
theorem cb22 : 1 ≤ cw21 3 ∧ cw21 3 ≤ 24 := by decide +kernel
theorem cz22 : Tz0 cw22 := cz21.m (gdW_mid (by have := cb22; omega))
def cw23 : Nat → Int := acsW cw22 1 1 1
theorem cb23 : 1 ≤ cw22 3 ∧ cw22 3 ≤ 24 := by decide +kernel
theorem cz23 : Tz0 cw23 := cz22.m (acsW_mid (by have := cb23; omega))
def cw24 : Nat → Int := ldW cw23 2 1 0
theorem cb24 : 0 ≤ cw23 3 ∧ cw23 3 ≤ 23 := by decide +kernel
theorem cz24 : Tz0 cw24 := cz23.m (ldW_mid (by have := cb24; omega))
def cw25 : Nat → Int := acsW cw24 0 2 0
theorem cb25 : 1 ≤ cw24 3 ∧ cw24 3 ≤ 24 := by decide +kernel
theorem cz25 : Tz0 cw25 := cz24.m (acsW_mid (by have := cb25; omega))
def cw26 : Nat → Int := ldW cw25 0 2 0
theorem cb26 : 0 ≤ cw25 3 ∧ cw25 3 ≤ 23 := by decide +kernel
theorem cz26 : Tz0 cw26 := cz25.m (ldW_mid (by have := cb26; omega))
def cw27 : Nat → Int := acsW cw26 0 1 1
theorem cb27 : 1 ≤ cw26 3 ∧ cw26 3 ≤ 24 := by decide +kernel
theorem cz27 : Tz0 cw27 := cz26.m (acsW_mid (by have := cb27; omega))
def cw28 : Nat → Int := keepW cw27 (-1) 0 1 5
theorem cb28 : 0 ≤ cw27 4 ∧ cw27 4 ≤ 11 := by decide +kernel
theorem cz28 : Tz0 cw28 := cz27.m (keepW_mid (by have := cb28; omega))
def cw29 : Nat → Int := keepW cw28 0 1 4 1
theorem cb29 : 0 ≤ cw28 4 ∧ cw28 4 ≤ 11 := by decide +kernel
theorem cz29 : Tz0 cw29 := cz28.m (keepW_mid (by have := cb29; omega))
theorem cw_all : (List.range 504).all (fun y => decide (cw29 y = w00 y)) = true := by decide +kernel
theorem cw_eq : cw29 = w00 := funext fun y => by
  by_cases hy : y < 504
  · exact of_decide_eq_true (List.all_eq_true.mp cw_all y (List.mem_range.mpr hy))
  · rw [cz29 y (by omega), w00_z (by omega)]
theorem n146 (hw : h 269 = cw0) : Rn (ev 146 122 [AR 268] [] (KS r d, h, R)) (fun o => ∃ h1, Ch h (ldM w00) h1 ∧ o = (.inl AU, (KS r d, h1, R))) := by
  have k0 := @kd_268 r d
  have k1 := @kd_269 r d
  refine w_aloadn f146_122 rfl (by omega) ?_
  refine w_qV f146_123 (Or.inl rfl) rfl (by omega) (okd_of (by assumption)) rfl ⟨Nat.le_of_ble_eq_true rfl, rfl, Nat.le_of_ble_eq_true rfl⟩ (en152 _) (n152 (w := cw0) hw) (fun o9 ho9 => ?_)
  obtain ⟨h1, p1, rfl⟩ := ho9
  have q1 : Ch h cw1 h1 := p1
  refine w_bok (pv152 _ _) ?_
  refine w_aloadn f146_126 rfl (by omega) ?_
  refine w_sipush (v := 357) f146_127 (by decide) ?_
  refine w_bipush (v := 105) f146_130 (by decide) ?_
  refine w_bipush (v := 100) f146_132 (by decide) ?_
  refine w_bipush (v := 108) f146_134 (by decide) ?_
  refine w_bipush (v := 101) f146_136 (by decide) ?_
  refine w_iconst (v := 0) f146_138 (by decide) ?_
  refine w_qV f146_139 (Or.inl rfl) rfl (by omega) (okd_of (by assumption)) rfl ⟨Nat.le_of_ble_eq_true rfl, rfl, Nat.le_of_ble_eq_true rfl⟩ (en153 _ _ _ _ _ _ _) (n153 (w := cw1) q1.1 (by decide)) (fun o9 ho9 => ?_)
  obtain ⟨h2, p2, rfl⟩ := ho9
  have q2 : Ch h cw2 h2 := q1.tr p2
  refine w_bok (pv153 _ _) ?_
  refine w_aloadn f146_142 rfl (by omega) ?_
  refine w_sipush (v := 364) f146_143 (by decide) ?_
  refine w_bipush (v := 98) f146_146 (by decide) ?_
  refine w_bipush (v := 117) f146_148 (by decide) ?_
  refine w_bipush (v := 115) f146_150 (by decide) ?_
  refine w_bipush (v := 121) f146_152 (by decide) ?_
  refine w_iconst (v := 0) f146_154 (by decide) ?_
  refine w_qV f146_155 (Or.inl rfl) rfl (by omega) (okd_of (by assumption)) rfl ⟨Nat.le_of_ble_eq_true rfl, rfl, Nat.le_of_ble_eq_true rfl⟩ (en153 _ _ _ _ _ _ _) (n153 (w := cw2) q2.1 (by decide)) (fun o9 ho9 => ?_)
  obtain ⟨h3, p3, rfl⟩ := ho9
  have q3 : Ch h cw3 h3 := q2.tr p3
  refine w_bok (pv153 _ _) ?_
  refine w_aloadn f146_158 rfl (by omega) ?_
  refine w_sipush (v := 371) f146_159 (by decide) ?_
  refine w_bipush (v := 102) f146_162 (by decide) ?_
  refine w_bipush (v := 117) f146_164 (by decide) ?_
  refine w_bipush (v := 108) f146_166 (by decide) ?_
  refine w_bipush (v := 108) f146_168 (by decide) ?_
  refine w_iconst (v := 0) f146_170 (by decide) ?_
  refine w_qV f146_171 (Or.inl rfl) rfl (by omega) (okd_of (by assumption)) rfl ⟨Nat.le_of_ble_eq_true rfl, rfl, Nat.le_of_ble_eq_true rfl⟩ (en153 _ _ _ _ _ _ _) (n153 (w := cw3) q3.1 (by decide)) (fun o9 ho9 => ?_)
  obtain ⟨h4, p4, rfl⟩ := ho9
  have q4 : Ch h cw4 h4 := q3.tr p4
  refine w_bok (pv153 _ _) ?_
  refine w_aloadn f146_174 rfl (by omega) ?_
  refine w_sipush (v := 427) f146_175 (by decide) ?_
  refine w_bipush (v := 99) f146_178 (by decide) ?_
  refine w_bipush (v := 111) f146_180 (by decide) ?_
  refine w_bipush (v := 105) f146_182 (by decide) ?_
  refine w_bipush (v := 110) f146_184 (by decide) ?_
  refine w_iconst (v := 0) f146_186 (by decide) ?_
  refine w_qV f146_187 (Or.inl rfl) rfl (by omega) (okd_of (by assumption)) rfl ⟨Nat.le_of_ble_eq_true rfl, rfl, Nat.le_of_ble_eq_true rfl⟩ (en153 _ _ _ _ _ _ _) (n153 (w := cw4) q4.1 (by decide)) (fun o9 ho9 => ?_)
  obtain ⟨h5, p5, rfl⟩ := ho9
  have q5 : Ch h cw5 h5 := q4.tr p5
  refine w_bok (pv153 _ _) ?_
  refine w_aloadn f146_190 rfl (by omega) ?_
  refine w_sipush (v := 434) f146_191 (by decide) ?_
  refine w_bipush (v := 112) f146_194 (by decide) ?_
  refine w_bipush (v := 117) f146_196 (by decide) ?_
  refine w_bipush (v := 115) f146_198 (by decide) ?_
  refine w_bipush (v := 104) f146_200 (by decide) ?_
  refine w_iconst (v := 0) f146_202 (by decide) ?_
  refine w_qV f146_203 (Or.inl rfl) rfl (by omega) (okd_of (by assumption)) rfl ⟨Nat.le_of_ble_eq_true rfl, rfl, Nat.le_of_ble_eq_true rfl⟩ (en153 _ _ _ _ _ _ _) (n153 (w := cw5) q5.1 (by decide)) (fun o9 ho9 => ?_)
  obtain ⟨h6, p6, rfl⟩ := ho9
  have q6 : Ch h cw6 h6 := q5.tr p6
  refine w_bok (pv153 _ _) ?_
  refine w_aloadn f146_206 rfl (by omega) ?_
  refine w_sipush (v := 441) f146_207 (by decide) ?_
  refine w_bipush (v := 116) f146_210 (by decide) ?_
  refine w_bipush (v := 97) f146_212 (by decide) ?_
  refine w_bipush (v := 107) f146_214 (by decide) ?_
  refine w_bipush (v := 101) f146_216 (by decide) ?_
  refine w_iconst (v := 0) f146_218 (by decide) ?_
  refine w_qV f146_219 (Or.inl rfl) rfl (by omega) (okd_of (by assumption)) rfl ⟨Nat.le_of_ble_eq_true rfl, rfl, Nat.le_of_ble_eq_true rfl⟩ (en153 _ _ _ _ _ _ _) (n153 (w := cw6) q6.1 (by decide)) (fun o9 ho9 => ?_)
  obtain ⟨h7, p7, rfl⟩ := ho9
  have q7 : Ch h cw7 h7 := q6.tr p7
  refine w_bok (pv153 _ _) ?_
  refine w_aloadn f146_222 rfl (by omega) ?_
  refine w_sipush (v := 483) f146_223 (by decide) ?_
  refine w_bipush (v := 99) f146_226 (by decide) ?_
  refine w_bipush (v := 111) f146_228 (by decide) ?_
  refine w_bipush (v := 105) f146_230 (by decide) ?_
  refine w_bipush (v := 110) f146_232 (by decide) ?_
  refine w_bipush (v := 115) f146_234 (by decide) ?_
  refine w_qV f146_236 (Or.inl rfl) rfl (by omega) (okd_of (by assumption)) rfl ⟨Nat.le_of_ble_eq_true rfl, rfl, Nat.le_of_ble_eq_true rfl⟩ (en153 _ _ _ _ _ _ _) (n153 (w := cw7) q7.1 (by decide)) (fun o9 ho9 => ?_)
  obtain ⟨h8, p8, rfl⟩ := ho9
  have q8 : Ch h cw8 h8 := q7.tr p8
  refine w_bok (pv153 _ _) ?_
  refine w_aloadn f146_239 rfl (by omega) ?_
  refine w_sipush (v := 490) f146_240 (by decide) ?_
  refine w_bipush (v := 99) f146_243 (by decide) ?_
  refine w_bipush (v := 117) f146_245 (by decide) ?_
  refine w_bipush (v := 112) f146_247 (by decide) ?_
  refine w_bipush (v := 115) f146_249 (by decide) ?_
  refine w_iconst (v := 0) f146_251 (by decide) ?_
  refine w_qV f146_252 (Or.inl rfl) rfl (by omega) (okd_of (by assumption)) rfl ⟨Nat.le_of_ble_eq_true rfl, rfl, Nat.le_of_ble_eq_true rfl⟩ (en153 _ _ _ _ _ _ _) (n153 (w := cw8) q8.1 (by decide)) (fun o9 ho9 => ?_)
  obtain ⟨h9, p9, rfl⟩ := ho9
  have q9 : Ch h cw9 h9 := q8.tr p9
  refine w_bok (pv153 _ _) ?_
  refine w_aloadn f146_255 rfl (by omega) ?_
  refine w_getR f146_256 (by assumption) rfl (by omega) ?_
  refine w_iconst (v := 0) f146_259 (by decide) ?_
  refine w_iconst (v := 3) f146_260 (by decide) ?_
  refine w_iast f146_261 (by assumption) (by omega) ?_
  have q10 := q9.put (j := 0) (v := 3)
  refine w_aloadn f146_262 rfl (by omega) ?_
  refine w_getR f146_263 (by assumption) rfl (by omega) ?_
  refine w_iconst (v := 1) f146_266 (by decide) ?_
  refine w_iconst (v := 3) f146_267 (by decide) ?_
  refine w_iast f146_268 (by assumption) (by omega) ?_
  have q11 := q10.put (j := 1) (v := 3)
  refine w_aloadn f146_269 rfl (by omega) ?_
  refine w_getR f146_270 (by assumption) rfl (by omega) ?_
  refine w_iconst (v := 2) f146_273 (by decide) ?_
  refine w_iconst (v := 2) f146_274 (by decide) ?_
  refine w_iast f146_275 (by assumption) (by omega) ?_
  have q12 := q11.put (j := 2) (v := 2)
  refine w_aloadn f146_276 rfl (by omega) ?_
  refine w_getR f146_277 (by assumption) rfl (by omega) ?_
  refine w_bipush (v := 10) f146_280 (by decide) ?_
  refine w_iconst (v := 3) f146_282 (by decide) ?_
  refine w_iast f146_283 (by assumption) (by omega) ?_
  have q13 := q12.put (j := 10) (v := 3)
  refine w_aloadn f146_284 rfl (by omega) ?_
  refine w_iconst (v := 0) f146_285 (by decide) ?_
  refine w_iconst (v := 0) f146_286 (by decide) ?_
  refine w_iconst (v := 1) f146_287 (by decide) ?_
  refine w_qV f146_288 (Or.inl rfl) rfl (by omega) (okd_of (by assumption)) rfl ⟨Nat.le_of_ble_eq_true rfl, rfl, Nat.le_of_ble_eq_true rfl⟩ (en156 _ _ _ _) (n156 (w := cw13) q13.1 cb14) (fun o9 ho9 => ?_)
  obtain ⟨h14, p14, rfl⟩ := ho9
  have q14 : Ch h cw14 h14 := q13.tr p14
  refine w_bok (pv156 _ _) ?_
  refine w_aloadn f146_291 rfl (by omega) ?_
  refine w_iconst (v := 0) f146_292 (by decide) ?_
  refine w_iconst (v := 0) f146_293 (by decide) ?_
  refine w_iconst (v := 1) f146_294 (by decide) ?_
  refine w_qV f146_295 (Or.inl rfl) rfl (by omega) (okd_of (by assumption)) rfl ⟨Nat.le_of_ble_eq_true rfl, rfl, Nat.le_of_ble_eq_true rfl⟩ (en158 _ _ _ _) (n158 (w := cw14) q14.1 cb15) (fun o9 ho9 => ?_)
  obtain ⟨h15, p15, rfl⟩ := ho9
  have q15 : Ch h cw15 h15 := q14.tr p15
  refine w_bok (pv158 _ _) ?_
  refine w_aloadn f146_298 rfl (by omega) ?_
  refine w_iconst (v := 1) f146_299 (by decide) ?_
  refine w_iconst (v := 0) f146_300 (by decide) ?_
  refine w_iconst (v := 2) f146_301 (by decide) ?_
  refine w_qV f146_302 (Or.inl rfl) rfl (by omega) (okd_of (by assumption)) rfl ⟨Nat.le_of_ble_eq_true rfl, rfl, Nat.le_of_ble_eq_true rfl⟩ (en156 _ _ _ _) (n156 (w := cw15) q15.1 cb16) (fun o9 ho9 => ?_)
  obtain ⟨h16, p16, rfl⟩ := ho9
  have q16 : Ch h cw16 h16 := q15.tr p16
  refine w_bok (pv156 _ _) ?_
  refine w_aloadn f146_305 rfl (by omega) ?_
  refine w_iconst (v := 0) f146_306 (by decide) ?_
  refine w_iconst (v := 5) f146_307 (by decide) ?_
  refine w_iconst (v := 2) f146_308 (by decide) ?_
  refine w_qV f146_309 (Or.inl rfl) rfl (by omega) (okd_of (by assumption)) rfl ⟨Nat.le_of_ble_eq_true rfl, rfl, Nat.le_of_ble_eq_true rfl⟩ (en157 _ _ _ _) (n157 (w := cw16) q16.1 cb17) (fun o9 ho9 => ?_)
  obtain ⟨h17, p17, rfl⟩ := ho9
  have q17 : Ch h cw17 h17 := q16.tr p17
  refine w_bok (pv157 _ _) ?_
  refine w_aloadn f146_312 rfl (by omega) ?_
  refine w_iconst (v := 0) f146_313 (by decide) ?_
  refine w_iconst (v := 0) f146_314 (by decide) ?_
  refine w_iconst (v := 1) f146_315 (by decide) ?_
  refine w_qV f146_316 (Or.inl rfl) rfl (by omega) (okd_of (by assumption)) rfl ⟨Nat.le_of_ble_eq_true rfl, rfl, Nat.le_of_ble_eq_true rfl⟩ (en158 _ _ _ _) (n158 (w := cw17) q17.1 cb18) (fun o9 ho9 => ?_)
  obtain ⟨h18, p18, rfl⟩ := ho9
  have q18 : Ch h cw18 h18 := q17.tr p18
  refine w_bok (pv158 _ _) ?_
  refine w_aloadn f146_319 rfl (by omega) ?_
  refine w_iconst (v := 1) f146_320 (by decide) ?_
  refine w_iconst (v := 0) f146_321 (by decide) ?_
  refine w_iconst (v := 1) f146_322 (by decide) ?_
  refine w_qV f146_323 (Or.inl rfl) rfl (by omega) (okd_of (by assumption)) rfl ⟨Nat.le_of_ble_eq_true rfl, rfl, Nat.le_of_ble_eq_true rfl⟩ (en156 _ _ _ _) (n156 (w := cw18) q18.1 cb19) (fun o9 ho9 => ?_)
  obtain ⟨h19, p19, rfl⟩ := ho9
  have q19 : Ch h cw19 h19 := q18.tr p19
  refine w_bok (pv156 _ _) ?_
  refine w_aloadn f146_326 rfl (by omega) ?_
  refine w_iconst (v := 0) f146_327 (by decide) ?_
  refine w_iconst (v := 0) f146_328 (by decide) ?_
  refine w_iconst (v := 1) f146_329 (by decide) ?_
  refine w_qV f146_330 (Or.inl rfl) rfl (by omega) (okd_of (by assumption)) rfl ⟨Nat.le_of_ble_eq_true rfl, rfl, Nat.le_of_ble_eq_true rfl⟩ (en158 _ _ _ _) (n158 (w := cw19) q19.1 cb20) (fun o9 ho9 => ?_)
  obtain ⟨h20, p20, rfl⟩ := ho9
  have q20 : Ch h cw20 h20 := q19.tr p20
  refine w_bok (pv158 _ _) ?_
  refine w_aloadn f146_333 rfl (by omega) ?_
  refine w_iconst (v := 1) f146_334 (by decide) ?_
  refine w_iconst (v := 1) f146_335 (by decide) ?_
  refine w_iconst (v := 0) f146_336 (by decide) ?_
  refine w_qV f146_337 (Or.inl rfl) rfl (by omega) (okd_of (by assumption)) rfl ⟨Nat.le_of_ble_eq_true rfl, rfl, Nat.le_of_ble_eq_true rfl⟩ (en156 _ _ _ _) (n156 (w := cw20) q20.1 cb21) (fun o9 ho9 => ?_)
  obtain ⟨h21, p21, rfl⟩ := ho9
  have q21 : Ch h cw21 h21 := q20.tr p21
  refine w_bok (pv156 _ _) ?_
  refine w_aloadn f146_340 rfl (by omega) ?_
  refine w_iconst (v := 0) f146_341 (by decide) ?_
  refine w_iconst (v := 4) f146_342 (by decide) ?_
  refine w_iconst (v := 2) f146_343 (by decide) ?_
  refine w_qV f146_344 (Or.inl rfl) rfl (by omega) (okd_of (by assumption)) rfl ⟨Nat.le_of_ble_eq_true rfl, rfl, Nat.le_of_ble_eq_true rfl⟩ (en157 _ _ _ _) (n157 (w := cw21) q21.1 cb22) (fun o9 ho9 => ?_)
  obtain ⟨h22, p22, rfl⟩ := ho9
  have q22 : Ch h cw22 h22 := q21.tr p22
  refine w_bok (pv157 _ _) ?_
  refine w_aloadn f146_347 rfl (by omega) ?_
  refine w_iconst (v := 1) f146_348 (by decide) ?_
  refine w_iconst (v := 1) f146_349 (by decide) ?_
  refine w_iconst (v := 1) f146_350 (by decide) ?_
  refine w_qV f146_351 (Or.inl rfl) rfl (by omega) (okd_of (by assumption)) rfl ⟨Nat.le_of_ble_eq_true rfl, rfl, Nat.le_of_ble_eq_true rfl⟩ (en158 _ _ _ _) (n158 (w := cw22) q22.1 cb23) (fun o9 ho9 => ?_)
  obtain ⟨h23, p23, rfl⟩ := ho9
  have q23 : Ch h cw23 h23 := q22.tr p23
  refine w_bok (pv158 _ _) ?_
  refine w_aloadn f146_354 rfl (by omega) ?_
  refine w_iconst (v := 2) f146_355 (by decide) ?_
  refine w_iconst (v := 1) f146_356 (by decide) ?_
  refine w_iconst (v := 0) f146_357 (by decide) ?_
  refine w_qV f146_358 (Or.inl rfl) rfl (by omega) (okd_of (by assumption)) rfl ⟨Nat.le_of_ble_eq_true rfl, rfl, Nat.le_of_ble_eq_true rfl⟩ (en156 _ _ _ _) (n156 (w := cw23) q23.1 cb24) (fun o9 ho9 => ?_)
  obtain ⟨h24, p24, rfl⟩ := ho9
  have q24 : Ch h cw24 h24 := q23.tr p24
  refine w_bok (pv156 _ _) ?_
  refine w_aloadn f146_361 rfl (by omega) ?_
  refine w_iconst (v := 0) f146_362 (by decide) ?_
  refine w_iconst (v := 2) f146_363 (by decide) ?_
  refine w_iconst (v := 0) f146_364 (by decide) ?_
  refine w_qV f146_365 (Or.inl rfl) rfl (by omega) (okd_of (by assumption)) rfl ⟨Nat.le_of_ble_eq_true rfl, rfl, Nat.le_of_ble_eq_true rfl⟩ (en158 _ _ _ _) (n158 (w := cw24) q24.1 cb25) (fun o9 ho9 => ?_)
  obtain ⟨h25, p25, rfl⟩ := ho9
  have q25 : Ch h cw25 h25 := q24.tr p25
  refine w_bok (pv158 _ _) ?_
  refine w_aloadn f146_368 rfl (by omega) ?_
  refine w_iconst (v := 0) f146_369 (by decide) ?_
  refine w_iconst (v := 2) f146_370 (by decide) ?_
  refine w_iconst (v := 0) f146_371 (by decide) ?_
  refine w_qV f146_372 (Or.inl rfl) rfl (by omega) (okd_of (by assumption)) rfl ⟨Nat.le_of_ble_eq_true rfl, rfl, Nat.le_of_ble_eq_true rfl⟩ (en156 _ _ _ _) (n156 (w := cw25) q25.1 cb26) (fun o9 ho9 => ?_)
  obtain ⟨h26, p26, rfl⟩ := ho9
  have q26 : Ch h cw26 h26 := q25.tr p26
  refine w_bok (pv156 _ _) ?_
  refine w_aloadn f146_375 rfl (by omega) ?_
  refine w_iconst (v := 0) f146_376 (by decide) ?_
  refine w_iconst (v := 1) f146_377 (by decide) ?_
  refine w_iconst (v := 1) f146_378 (by decide) ?_
  refine w_qV f146_379 (Or.inl rfl) rfl (by omega) (okd_of (by assumption)) rfl ⟨Nat.le_of_ble_eq_true rfl, rfl, Nat.le_of_ble_eq_true rfl⟩ (en158 _ _ _ _) (n158 (w := cw26) q26.1 cb27) (fun o9 ho9 => ?_)
  obtain ⟨h27, p27, rfl⟩ := ho9
  have q27 : Ch h cw27 h27 := q26.tr p27
  refine w_bok (pv158 _ _) ?_
  refine w_aloadn f146_382 rfl (by omega) ?_
  refine w_iconst (v := -1) f146_383 (by decide) ?_
  refine w_iconst (v := 0) f146_384 (by decide) ?_
  refine w_iconst (v := 1) f146_385 (by decide) ?_
  refine w_iconst (v := 5) f146_386 (by decide) ?_
  refine w_qV f146_387 (Or.inl rfl) rfl (by omega) (okd_of (by assumption)) rfl ⟨Nat.le_of_ble_eq_true rfl, rfl, Nat.le_of_ble_eq_true rfl⟩ (en159 _ _ _ _ _) (s159 (w := cw27) q27.1 cb28) (fun o9 ho9 => ?_)
  obtain ⟨h28, p28, rfl⟩ := ho9
  have q28 : Ch h cw28 h28 := q27.tr p28
  refine w_bok (pv159 _ _) ?_
  refine w_pop f146_390 rfl ?_
  refine w_aloadn f146_391 rfl (by omega) ?_
  refine w_iconst (v := 0) f146_392 (by decide) ?_
  refine w_iconst (v := 1) f146_393 (by decide) ?_
  refine w_iconst (v := 4) f146_394 (by decide) ?_
  refine w_iconst (v := 1) f146_395 (by decide) ?_
  refine w_qV f146_396 (Or.inl rfl) rfl (by omega) (okd_of (by assumption)) rfl ⟨Nat.le_of_ble_eq_true rfl, rfl, Nat.le_of_ble_eq_true rfl⟩ (en159 _ _ _ _ _) (s159 (w := cw28) q28.1 cb29) (fun o9 ho9 => ?_)
  obtain ⟨h29, p29, rfl⟩ := ho9
  have q29 : Ch h cw29 h29 := q28.tr p29
  refine w_bok (pv159 _ _) ?_
  refine w_pop f146_399 rfl ?_
  refine w_aloadn f146_400 rfl (by omega) ?_
  refine w_qV f146_401 (Or.inl rfl) rfl (by omega) (okd_of (by assumption)) rfl ⟨Nat.le_of_ble_eq_true rfl, rfl, Nat.le_of_ble_eq_true rfl⟩ (en161 _) (s161 (w := cw29) q29.1) (fun o9 ho9 => ?_)
  obtain ⟨h30, q30, rfl⟩ := ho9
  refine w_bok (pv161 _ _) ?_
  refine w_ret f146_404 rfl ?_
  exact ⟨_, by rw [← cw_eq]; exact q29.tr q30, rfl⟩
end A

/-! the tables are as the bridge wants them -/
theorem rall {f : Nat → Bool} {k n m : Nat} (h : (List.range' k n).all f = true) (h1 : k ≤ m) (h2 : m < k + n) : f m = true := List.all_eq_true.mp h m (List.mem_range'_1.mpr ⟨h1, h2⟩)
theorem tabM {m : Nat} (h : m < 312) : mchk m = true := by
  by_cases h12 : m < 12
  · exact rall tab_m_0 (by omega) (by omega)
  by_cases h24 : m < 24
  · exact rall tab_m_12 (by omega) (by omega)
  by_cases h36 : m < 36
  · exact rall tab_m_24 (by omega) (by omega)
  by_cases h48 : m < 48
  · exact rall tab_m_36 (by omega) (by omega)
  by_cases h60 : m < 60
  · exact rall tab_m_48 (by omega) (by omega)
  by_cases h72 : m < 72
  · exact rall tab_m_60 (by omega) (by omega)
  by_cases h84 : m < 84
  · exact rall tab_m_72 (by omega) (by omega)
  by_cases h96 : m < 96
  · exact rall tab_m_84 (by omega) (by omega)
  by_cases h108 : m < 108
  · exact rall tab_m_96 (by omega) (by omega)
  by_cases h120 : m < 120
  · exact rall tab_m_108 (by omega) (by omega)
  by_cases h132 : m < 132
  · exact rall tab_m_120 (by omega) (by omega)
  by_cases h144 : m < 144
  · exact rall tab_m_132 (by omega) (by omega)
  by_cases h156 : m < 156
  · exact rall tab_m_144 (by omega) (by omega)
  by_cases h168 : m < 168
  · exact rall tab_m_156 (by omega) (by omega)
  by_cases h180 : m < 180
  · exact rall tab_m_168 (by omega) (by omega)
  by_cases h192 : m < 192
  · exact rall tab_m_180 (by omega) (by omega)
  by_cases h204 : m < 204
  · exact rall tab_m_192 (by omega) (by omega)
  by_cases h216 : m < 216
  · exact rall tab_m_204 (by omega) (by omega)
  by_cases h228 : m < 228
  · exact rall tab_m_216 (by omega) (by omega)
  by_cases h240 : m < 240
  · exact rall tab_m_228 (by omega) (by omega)
  by_cases h252 : m < 252
  · exact rall tab_m_240 (by omega) (by omega)
  by_cases h264 : m < 264
  · exact rall tab_m_252 (by omega) (by omega)
  by_cases h276 : m < 276
  · exact rall tab_m_264 (by omega) (by omega)
  by_cases h288 : m < 288
  · exact rall tab_m_276 (by omega) (by omega)
  by_cases h300 : m < 300
  · exact rall tab_m_288 (by omega) (by omega)
  exact rall tab_m_300 (by omega) (by omega)
theorem tabH {m : Nat} (h : m < 312) : hchk m = true := by
  by_cases h24 : m < 24
  · exact rall tab_h_0 (by omega) (by omega)
  by_cases h48 : m < 48
  · exact rall tab_h_24 (by omega) (by omega)
  by_cases h72 : m < 72
  · exact rall tab_h_48 (by omega) (by omega)
  by_cases h96 : m < 96
  · exact rall tab_h_72 (by omega) (by omega)
  by_cases h120 : m < 120
  · exact rall tab_h_96 (by omega) (by omega)
  by_cases h144 : m < 144
  · exact rall tab_h_120 (by omega) (by omega)
  by_cases h168 : m < 168
  · exact rall tab_h_144 (by omega) (by omega)
  by_cases h192 : m < 192
  · exact rall tab_h_168 (by omega) (by omega)
  by_cases h216 : m < 216
  · exact rall tab_h_192 (by omega) (by omega)
  by_cases h240 : m < 240
  · exact rall tab_h_216 (by omega) (by omega)
  by_cases h264 : m < 264
  · exact rall tab_h_240 (by omega) (by omega)
  by_cases h288 : m < 288
  · exact rall tab_h_264 (by omega) (by omega)
  exact rall tab_h_288 (by omega) (by omega)
theorem tabT {m : Nat} (h : m < 312) : (am_code m).all (tchk m) = true := by
  by_cases h7 : m < 7
  · exact rall tab_t_0 (by omega) (by omega)
  by_cases h14 : m < 14
  · exact rall tab_t_7 (by omega) (by omega)
  by_cases h22 : m < 22
  · exact rall tab_t_14 (by omega) (by omega)
  by_cases h26 : m < 26
  · exact rall tab_t_22 (by omega) (by omega)
  by_cases h35 : m < 35
  · exact rall tab_t_26 (by omega) (by omega)
  by_cases h41 : m < 41
  · exact rall tab_t_35 (by omega) (by omega)
  by_cases h47 : m < 47
  · exact rall tab_t_41 (by omega) (by omega)
  by_cases h51 : m < 51
  · exact rall tab_t_47 (by omega) (by omega)
  by_cases h54 : m < 54
  · exact rall tab_t_51 (by omega) (by omega)
  by_cases h59 : m < 59
  · exact rall tab_t_54 (by omega) (by omega)
  by_cases h63 : m < 63
  · exact rall tab_t_59 (by omega) (by omega)
  by_cases h65 : m < 65
  · exact rall tab_t_63 (by omega) (by omega)
  by_cases h72 : m < 72
  · exact rall tab_t_65 (by omega) (by omega)
  by_cases h76 : m < 76
  · exact rall tab_t_72 (by omega) (by omega)
  by_cases h92 : m < 92
  · exact rall tab_t_76 (by omega) (by omega)
  by_cases h101 : m < 101
  · exact rall tab_t_92 (by omega) (by omega)
  by_cases h112 : m < 112
  · exact rall tab_t_101 (by omega) (by omega)
  by_cases h122 : m < 122
  · exact rall tab_t_112 (by omega) (by omega)
  by_cases h128 : m < 128
  · exact rall tab_t_122 (by omega) (by omega)
  by_cases h137 : m < 137
  · exact rall tab_t_128 (by omega) (by omega)
  by_cases h144 : m < 144
  · exact rall tab_t_137 (by omega) (by omega)
  by_cases h147 : m < 147
  · exact rall tab_t_144 (by omega) (by omega)
  by_cases h157 : m < 157
  · exact rall tab_t_147 (by omega) (by omega)
  by_cases h162 : m < 162
  · exact rall tab_t_157 (by omega) (by omega)
  by_cases h171 : m < 171
  · exact rall tab_t_162 (by omega) (by omega)
  by_cases h176 : m < 176
  · exact rall tab_t_171 (by omega) (by omega)
  by_cases h181 : m < 181
  · exact rall tab_t_176 (by omega) (by omega)
  by_cases h186 : m < 186
  · exact rall tab_t_181 (by omega) (by omega)
  by_cases h193 : m < 193
  · exact rall tab_t_186 (by omega) (by omega)
  by_cases h200 : m < 200
  · exact rall tab_t_193 (by omega) (by omega)
  by_cases h207 : m < 207
  · exact rall tab_t_200 (by omega) (by omega)
  by_cases h210 : m < 210
  · exact rall tab_t_207 (by omega) (by omega)
  by_cases h213 : m < 213
  · exact rall tab_t_210 (by omega) (by omega)
  by_cases h219 : m < 219
  · exact rall tab_t_213 (by omega) (by omega)
  by_cases h229 : m < 229
  · exact rall tab_t_219 (by omega) (by omega)
  by_cases h240 : m < 240
  · exact rall tab_t_229 (by omega) (by omega)
  by_cases h249 : m < 249
  · exact rall tab_t_240 (by omega) (by omega)
  by_cases h257 : m < 257
  · exact rall tab_t_249 (by omega) (by omega)
  by_cases h264 : m < 264
  · exact rall tab_t_257 (by omega) (by omega)
  by_cases h269 : m < 269
  · exact rall tab_t_264 (by omega) (by omega)
  by_cases h275 : m < 275
  · exact rall tab_t_269 (by omega) (by omega)
  by_cases h280 : m < 280
  · exact rall tab_t_275 (by omega) (by omega)
  by_cases h287 : m < 287
  · exact rall tab_t_280 (by omega) (by omega)
  by_cases h298 : m < 298
  · exact rall tab_t_287 (by omega) (by omega)
  by_cases h309 : m < 309
  · exact rall tab_t_298 (by omega) (by omega)
  exact rall tab_t_309 (by omega) (by omega)
theorem tabL : (am_code 312).all (tchk 312) = true := by
  show kc312.all (tchk 312) = true
  unfold kc312
  simp only [List.all_append, tab_l_0, tab_l_1, tab_l_2, tab_l_3, tab_l_4, tab_l_5, tab_l_6, tab_l_7, tab_l_8, tab_l_9, tab_l_10, tab_l_11, tab_l_12, tab_l_13, Bool.and_self, Bool.and_true]
theorem am_code_z {m : Nat} (h : 313 ≤ m) : am_code m = [] := by
  unfold am_code
  rw [List.getD_eq_getElem?_getD, List.getElem?_eq_none (show am_codes.length ≤ m from Nat.le_trans (show am_codes.length ≤ 313 by decide +kernel) h)]
  rfl
theorem tabOK : TabOK := by
  refine ⟨fun m h => tabM h, fun m e he => ?_, fun m h => tabH h, fun r hr => List.all_eq_true.mp tab_r r hr, fun E h => ?_⟩
  · by_cases h : m < 312
    · exact List.all_eq_true.mp (tabT h) e he
    · by_cases h1 : m = 312
      · subst h1
        exact List.all_eq_true.mp tabL e he
      · rw [am_code_z (by omega)] at he
        cases he
  · have h9 := rall tab_E (Nat.zero_le E) (by omega)
    simp only [Bool.and_eq_true, decide_eq_true_eq] at h9
    exact h9
theorem am_hm (m pc : Nat) (h : am_find (am_code m) pc ≠ none) : m < 313 := by
  by_cases h1 : m < 313
  · exact h1
  · rw [am_code_z (by omega)] at h
    exact absurd rfl h
/-- what a field's type is -/
def rTy (ty : FieldType) : Bool := match ty with
  | .object _ => true
  | .array _ => true
  | _ => false
theorem rTy_of {ty : FieldType} (h : rTy ty = true) : (∀ v : Value, v.isRef = true → narrow ty v = v ∧ fits ty v = true) ∧ defaultValue ty = .null := by
  cases ty with
  | object _ => exact ⟨fun v hv => (by cases v <;> first | exact ⟨rfl, rfl⟩ | exact absurd hv Bool.false_ne_true), rfl⟩
  | array _ => exact ⟨fun v hv => (by cases v <;> first | exact ⟨rfl, rfl⟩ | exact absurd hv Bool.false_ne_true), rfl⟩
  | _ => cases h
def uwT (d : String) : Bool := match parseFieldDescriptor d with
  | none => false
  | some ty => (decide (ftc d ≠ 1) || rTy ty) && (decide (ftc d ≠ 0) || decide (ty = .int)) && (decide (ftc d ≠ 2) || decide (ty = .boolean))
theorem uwT_of {d : String} (h : uwT d = true) : ∃ ty, parseFieldDescriptor d = some ty ∧ (ftc d = 1 → (∀ v : Value, v.isRef = true → narrow ty v = v ∧ fits ty v = true) ∧ defaultValue ty = .null) ∧ (ftc d = 0 → ty = .int) ∧ (ftc d = 2 → ty = .boolean) := by
  unfold uwT at h
  split at h
  · cases h
  · next ty hp =>
    simp only [Bool.and_eq_true, Bool.or_eq_true, decide_eq_true_eq] at h
    obtain ⟨⟨h1, h2⟩, h3⟩ := h
    exact ⟨ty, hp, fun e => rTy_of (h1.resolve_left (fun z => z e)), fun e => h2.resolve_left (fun z => z e), fun e => h3.resolve_left (fun z => z e)⟩
def uwD (i : Nat) : Bool := match vwCl[i]? with
  | some (_, T, N) => (List.range N).all (fun k => uwT (T k).2.2.1) && (List.range N).all (fun a => (List.range N).all (fun b => decide (a = b) || decide ((T a).2.1 ≠ (T b).2.1)))
  | none => true
theorem uw_1 : (List.range 13).all uwOK = true := by decide +kernel
theorem uw_2 : (List.range 13).all uwD = true := by decide +kernel
theorem uW : UW := by
  intro i C T N hv
  have hi : i < 13 := (List.getElem?_eq_some_iff.mp hv).1
  have a1 := List.all_eq_true.mp uw_1 i (List.mem_range.mpr hi)
  have a2 := List.all_eq_true.mp uw_2 i (List.mem_range.mpr hi)
  unfold uwOK at a1
  unfold uwD at a2
  rw [hv] at a1 a2
  dsimp only at a1 a2
  rw [Bool.and_eq_true] at a2
  refine ⟨fun w hw => ?_, fun k hk => uwT_of (List.all_eq_true.mp a2.1 k (List.mem_range.mpr hk)), fun a ha b hb hab => ?_⟩
  · have h9 := List.all_eq_true.mp a1 w hw
    simp only [Bool.and_eq_true, decide_eq_true_eq] at h9
    exact ⟨h9.2, h9.1⟩
  · have h9 := List.all_eq_true.mp (List.all_eq_true.mp a2.2 a (List.mem_range.mpr ha)) b (List.mem_range.mpr hb)
    simp only [Bool.or_eq_true, decide_eq_true_eq] at h9
    exact h9.resolve_left hab

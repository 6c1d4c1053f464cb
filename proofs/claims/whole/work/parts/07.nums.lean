/-! NUMBERS: Int for Int32 -/
theorem inR_wr (z : Int) : inR (wr z) := by unfold inR wr; omega
theorem toI {x : Int} (h : inR x) : (Int32.ofInt x).toInt = x := by
  unfold inR at h
  rw [Int32.toInt_ofInt]
  show Int.bmod x 4294967296 = x
  exact Int.bmod_eq_of_le (by omega) (by omega)
theorem toI_cl {x : Int} (h : inR x) : (Int32.ofInt x).toNatClampNeg = x.toNat := by
  show (Int32.ofInt x).toInt.toNat = x.toNat
  rw [toI h]
theorem ofI_toInt (x : Int32) : Int32.ofInt x.toInt = x := by simp
theorem ofI_wr (z : Int) : Int32.ofInt (wr z) = Int32.ofInt z := by
  apply Int32.toInt_inj.mp
  rw [toI (inR_wr z), Int32.toInt_ofInt]
  show wr z = Int.bmod z 4294967296
  unfold wr
  rw [Int.bmod_def]
  split <;> omega
theorem ofI_add (x y : Int) : Int32.ofInt (wr (x + y)) = Int32.ofInt x + Int32.ofInt y := by rw [ofI_wr, Int32.ofInt_add]
theorem ofI_sub (x y : Int) : Int32.ofInt (wr (x - y)) = Int32.ofInt x - Int32.ofInt y := by rw [ofI_wr, Int32.ofInt_sub]
theorem ofI_mul (x y : Int) : Int32.ofInt (wr (x * y)) = Int32.ofInt x * Int32.ofInt y := by rw [ofI_wr, Int32.ofInt_mul]
theorem ofI_eq {x y : Int} (hx : inR x) (hy : inR y) : Int32.ofInt x = Int32.ofInt y ↔ x = y := by
  rw [← Int32.toInt_inj, toI hx, toI hy]
theorem ofI_lt {x y : Int} (hx : inR x) (hy : inR y) : Int32.ofInt x < Int32.ofInt y ↔ x < y := by
  rw [Int32.lt_iff_toInt_lt, toI hx, toI hy]
theorem ofI_le {x y : Int} (hx : inR x) (hy : inR y) : Int32.ofInt x ≤ Int32.ofInt y ↔ x ≤ y := by
  rw [Int32.le_iff_toInt_le, toI hx, toI hy]
theorem inR_0 : inR 0 := by unfold inR; omega
theorem ofI_0 : Int32.ofInt 0 = 0 := rfl
theorem ofI_vp {x : Int} {n : Nat} (hx : inR x) (h0 : 0 ≤ x) (h1 : x < n) : vp_in (Int32.ofInt x) n := by
  rw [vp_in_iff, toI hx]
  exact ⟨h0, h1⟩
theorem ofI_nat {n : Nat} (x : Int) (hx : inR x) (h0 : 0 ≤ x) (hn : x.toNat = n) : Int32.ofNat n = Int32.ofInt x := by
  subst hn
  rw [show x = ((x.toNat : Nat) : Int) by omega]
  rfl
theorem toI64 {x : Int} (h : inR x) : (Int64.ofInt x).toInt = x := by
  unfold inR at h
  rw [Int64.toInt_ofInt]
  show Int.bmod x 18446744073709551616 = x
  exact Int.bmod_eq_of_le (by omega) (by omega)
theorem ofI_i2l {x : Int} (h : inR x) : (Int32.ofInt x).toInt64 = Int64.ofInt x := by
  apply Int64.toInt_inj.mp
  rw [toI64 h, Int32.toInt_toInt64, toI h]
theorem ofI_lcmp {x y : Int} (hx : inR x) (hy : inR y) : lg_cmp (Int64.ofInt x) (Int64.ofInt y) = Int32.ofInt (if x < y then -1 else if x = y then 0 else 1) := by
  unfold lg_cmp
  simp only [gt_iff_lt, Int64.lt_iff_toInt_lt, ← Int64.toInt_inj, toI64 hx, toI64 hy]
  by_cases h1 : x < y
  · rw [if_pos h1, if_neg (by omega), if_neg (by omega)]; rfl
  · by_cases h2 : x = y
    · rw [if_neg h1, if_pos h2, if_neg (by omega), if_pos h2]; rfl
    · rw [if_neg h1, if_neg h2, if_pos (by omega), if_neg h2]; rfl
theorem ofI_div {x y : Int} (hx : inR x) (hy : inR y) (h0 : 0 ≤ x) (h1 : 0 < y) : Int32.ofInt x / Int32.ofInt y = Int32.ofInt (x / y) := by
  obtain ⟨a, rfl⟩ := Int.eq_ofNat_of_zero_le h0
  obtain ⟨b, rfl⟩ := Int.eq_ofNat_of_zero_le (Int.le_of_lt h1)
  unfold inR at hx hy
  exact pk_div (a := a) (d := b) (by omega) (by omega) (by omega)
theorem ofI_rem {x y : Int} (hx : inR x) (hy : inR y) (h0 : 0 ≤ x) (h1 : 0 < y) : Int32.ofInt x - Int32.ofInt x / Int32.ofInt y * Int32.ofInt y = Int32.ofInt (x % y) := by
  obtain ⟨a, rfl⟩ := Int.eq_ofNat_of_zero_le h0
  obtain ⟨b, rfl⟩ := Int.eq_ofNat_of_zero_le (Int.le_of_lt h1)
  unfold inR at hx hy
  exact pk_rem (a := a) (d := b) (by omega) (by omega) (by omega)
theorem ofI_bv {x : Int} (hx : inR x) : ((Int32.ofInt x).toBitVec.toNat : Int) = x % 4294967296 := by
  unfold inR at hx
  have h1 : (Int32.ofInt x).toBitVec = BitVec.ofInt 32 x := rfl
  rw [h1, BitVec.toNat_ofInt]
  omega
theorem ofI_and {x y : Int} (hx : inR x) (hy : y = 63 ∨ y = 255) : Int32.ofInt x &&& Int32.ofInt y = Int32.ofInt (x % (y + 1)) := by
  have hb := ofI_bv hx
  rcases hy with rfl | rfl
  · rw [pk_and (Int32.ofInt x) (m := Int32.ofInt 63) 6 (by decide)]
    refine ofI_nat _ (by unfold inR; omega) (by omega) ?_
    omega
  · rw [pk_and (Int32.ofInt x) (m := Int32.ofInt 255) 8 (by decide)]
    refine ofI_nat _ (by unfold inR; omega) (by omega) ?_
    omega
theorem ofI_of {r : Int32} {x : Int} (hx : inR x) (h : r.toInt = x) : r = Int32.ofInt x := Int32.toInt_inj.mp (h.trans (toI hx).symm)
theorem ofI_ushr {x y : Int} (hx : inR x) (hy : y = 8 ∨ y = 16 ∨ y = 24) : ((Int32.ofInt x).toUInt32 >>> ((Int32.ofInt y).toUInt32 &&& Int32.toUInt32 31)).toInt32 = Int32.ofInt ((x % 4294967296) / 2 ^ y.toNat) := by
  have hb := ofI_bv hx
  have key : ∀ k : Nat, 1 ≤ k → k ≤ 31 → (((Int32.ofInt (k : Int)).toUInt32 &&& Int32.toUInt32 31).toBitVec % 32).toNat = k → ((Int32.ofInt x).toUInt32 >>> ((Int32.ofInt (k : Int)).toUInt32 &&& Int32.toUInt32 31)).toInt32 = Int32.ofInt ((x % 4294967296) / 2 ^ k) := by
    intro k hk hk2 hs
    have h := pk_ushr (Int32.ofInt x) (Int32.ofInt (k : Int)) k hs
    have h2 : (2 : Nat) ≤ 2 ^ k := by
      calc 2 = 2 ^ 1 := rfl
        _ ≤ 2 ^ k := Nat.pow_le_pow_right (by omega) hk
    generalize hr : ((Int32.ofInt x).toUInt32 >>> ((Int32.ofInt (k : Int)).toUInt32 &&& Int32.toUInt32 31)).toInt32 = r at h
    have hlt : (Int32.ofInt x).toBitVec.toNat < 4294967296 := (Int32.ofInt x).toBitVec.isLt
    have hq : (Int32.ofInt x).toBitVec.toNat / 2 ^ k < 2147483648 := by
      rw [Nat.div_lt_iff_lt_mul (by omega)]
      omega
    have hrn : r.toInt = ((Int32.ofInt x).toBitVec.toNat / 2 ^ k : Nat) := by
      show r.toBitVec.toInt = _
      rw [BitVec.toInt_eq_toNat_of_lt (by omega), h]
    have he : (((Int32.ofInt x).toBitVec.toNat / 2 ^ k : Nat) : Int) = (x % 4294967296) / 2 ^ k := by
      rw [Int.natCast_ediv, hb]
      simp
    refine ofI_of ?_ (hrn.trans he)
    unfold inR
    omega
  rcases hy with rfl | rfl | rfl
  · exact key 8 (by omega) (by omega) (by decide)
  · exact key 16 (by omega) (by omega) (by decide)
  · exact key 24 (by omega) (by omega) (by decide)
theorem sm_all : ∀ k, k < 32 → ((Int32.ofInt ((k : Nat) : Int) &&& 31).toBitVec.smod 32).toNat = k := by decide
theorem ofI_shr {x y : Int} (hx : inR x) (h0 : 0 ≤ y) (h1 : y ≤ 31) : Int32.ofInt x >>> (Int32.ofInt y &&& 31) = Int32.ofInt (x / 2 ^ y.toNat) := by
  obtain ⟨k, rfl⟩ := Int.eq_ofNat_of_zero_le h0
  have h := pk_shr (Int32.ofInt x) (Int32.ofInt (k : Int) &&& 31) k (sm_all k (by omega))
  rw [toI hx, Int.shiftRight_eq_div_pow] at h
  have hp : (1 : Int) ≤ 2 ^ k := by
    have : 0 < (2 : Int) ^ k := Int.pow_pos (by omega)
    omega
  have e : ((2 ^ k : Nat) : Int) = 2 ^ k := by simp
  refine ofI_of ?_ (h.trans (by rw [e]; rfl))
  unfold inR at hx ⊢
  show -2147483648 ≤ x / 2 ^ k ∧ x / 2 ^ k ≤ 2147483647
  constructor
  · rw [Int.le_ediv_iff_mul_le (by omega)]
    have h9 : (2147483648 : Int) * 1 ≤ 2147483648 * 2 ^ k := Int.mul_le_mul_of_nonneg_left hp (by omega)
    omega
  · by_cases hx0 : 0 ≤ x
    · have := Int.ediv_le_self (2 ^ k) hx0
      omega
    · have : x / 2 ^ k < 0 := Int.ediv_neg_of_neg_of_pos (by omega) (by omega)
      omega

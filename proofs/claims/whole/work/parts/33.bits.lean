/-! PURE: 64 bits as natural numbers -/
def ub (x : Int64) : Nat := x.toUInt64.toNat
theorem ub_bv (x : Int64) : ub x = x.toBitVec.toNat := rfl
theorem ub_lt (x : Int64) : ub x < 18446744073709551616 := x.toUInt64.toNat_lt
theorem ub_inj {x y : Int64} : x = y ↔ ub x = ub y := by
  constructor
  · intro h; rw [h]
  · intro h
    rw [← Int64.toBitVec_inj]
    exact BitVec.eq_of_toNat_eq h
theorem ub_and (x y : Int64) : ub (x &&& y) = ub x &&& ub y := by
  rw [ub_bv, Int64.toBitVec_and, BitVec.toNat_and]; rfl
theorem ub_or (x y : Int64) : ub (x ||| y) = ub x ||| ub y := by
  rw [ub_bv, Int64.toBitVec_or, BitVec.toNat_or]; rfl
theorem ub_xor (x y : Int64) : ub (x ^^^ y) = ub x ^^^ ub y := by
  rw [ub_bv, Int64.toBitVec_xor, BitVec.toNat_xor]; rfl
theorem ub_add (x y : Int64) : ub (x + y) = (ub x + ub y) % 18446744073709551616 := by
  rw [ub_bv, Int64.toBitVec_add, BitVec.toNat_add]; rfl
theorem ub_sub (x y : Int64) : ub (x - y) = (18446744073709551616 - ub y + ub x) % 18446744073709551616 := by
  rw [ub_bv, Int64.toBitVec_sub, BitVec.toNat_sub]; rfl
theorem ub_mul (x y : Int64) : ub (x * y) = (ub x * ub y) % 18446744073709551616 := by
  rw [ub_bv, Int64.toBitVec_mul, BitVec.toNat_mul]; rfl
theorem ub_neg (x : Int64) : ub (-x) = (18446744073709551616 - ub x) % 18446744073709551616 := by
  rw [ub_bv, Int64.toBitVec_neg, BitVec.toNat_neg]; rfl
theorem ub_toInt (x : Int64) : x.toInt = if ub x < 9223372036854775808 then (ub x : Int) else (ub x : Int) - 18446744073709551616 := by
  show x.toBitVec.toInt = _
  rw [BitVec.toInt_eq_toNat_cond, ← ub_bv]
  by_cases h : ub x < 9223372036854775808
  · rw [if_pos h, if_pos (by omega)]
  · rw [if_neg h, if_neg (by omega)]; rfl
theorem ub_pos {x : Int64} (h : ub x < 9223372036854775808) : x.toInt = ub x := by rw [ub_toInt, if_pos h]
theorem ub_nn {x : Int64} : (0 : Int64) ≤ x ↔ ub x < 9223372036854775808 := by
  rw [l_le, t_l0, ub_toInt]
  have := ub_lt x
  split <;> omega
theorem ub_ng {x : Int64} : x < (0 : Int64) ↔ 9223372036854775808 ≤ ub x := by
  rw [l_lt, t_l0, ub_toInt]
  have := ub_lt x
  split <;> omega
theorem ub_of_nn {x : Int64} (h : 0 ≤ x.toInt) : (ub x : Int) = x.toInt := by
  have := ub_lt x
  rw [ub_toInt] at h ⊢
  split at h <;> rename_i q
  · rw [if_pos q]
  · omega
theorem ub_llt {x y : Int64} (hx : ub x < 9223372036854775808) (hy : ub y < 9223372036854775808) : x < y ↔ ub x < ub y := by
  rw [l_lt, ub_pos hx, ub_pos hy]; omega
theorem ub_lle {x y : Int64} (hx : ub x < 9223372036854775808) (hy : ub y < 9223372036854775808) : x ≤ y ↔ ub x ≤ ub y := by
  rw [l_le, ub_pos hx, ub_pos hy]; omega
theorem ub_u (x : Int64) : x.toUInt64 = UInt64.ofNat (ub x) := by
  unfold ub; rw [UInt64.ofNat_toNat]
theorem sh_all : ∀ k : Fin 64, ((nI k.val).toInt64.toUInt64 &&& Int64.toUInt64 63).toNat = k.val ∧ ((nI k.val).toInt64 &&& 63).toBitVec.smod 64 = BitVec.ofNat 64 k.val := by decide +kernel
theorem nI_is {s : Int32} {k : Nat} (h : s.toInt = k) (hk : k < 2147483648) : s = nI k := by
  rw [i_eq, nI_toInt hk]; exact h
theorem ub_shr (x : Int64) {s : Int32} {k : Nat} (hs : s.toInt = k) (hk : k < 64) : ub ((x.toUInt64 >>> (s.toInt64.toUInt64 &&& Int64.toUInt64 63)).toInt64) = ub x / 2 ^ k := by
  have h := (sh_all ⟨k, hk⟩).1
  rw [nI_is hs (by omega)]
  show (x.toUInt64 >>> ((nI k).toInt64.toUInt64 &&& Int64.toUInt64 63)).toNat = _
  rw [UInt64.toNat_shiftRight]
  show ub x >>> (((nI k).toInt64.toUInt64 &&& Int64.toUInt64 63).toNat % 64) = _
  rw [show ((nI k).toInt64.toUInt64 &&& Int64.toUInt64 63).toNat = k from h, Nat.mod_eq_of_lt hk, Nat.shiftRight_eq_div_pow]
theorem ub_shl (x : Int64) {s : Int32} {k : Nat} (hs : s.toInt = k) (hk : k < 64) : ub (x <<< (s.toInt64 &&& 63)) = ub x * 2 ^ k % 18446744073709551616 := by
  have h := (sh_all ⟨k, hk⟩).2
  rw [nI_is hs (by omega), ub_bv, Int64.toBitVec_shiftLeft, show ((nI k).toInt64 &&& 63).toBitVec.smod 64 = BitVec.ofNat 64 k from h]
  show (x.toBitVec <<< (BitVec.ofNat 64 k).toNat).toNat = _
  rw [BitVec.toNat_shiftLeft, BitVec.toNat_ofNat, Nat.mod_eq_of_lt (show k < 2 ^ 64 by omega), Nat.shiftLeft_eq]
  rfl
theorem ub_32 {x : Int32} (h : 0 ≤ x.toInt) : (ub x.toInt64 : Int) = x.toInt := by
  rw [ub_of_nn (by rw [i2l_toInt]; exact h), i2l_toInt]
theorem n_field (n a b : Nat) : n &&& ((2 ^ a - 1) * 2 ^ b) = n / 2 ^ b % 2 ^ a * 2 ^ b := by
  apply Nat.eq_of_testBit_eq
  intro i
  rw [Nat.testBit_and, Nat.testBit_mul_two_pow, Nat.testBit_mul_two_pow, Nat.testBit_two_pow_sub_one, Nat.testBit_mod_two_pow, Nat.testBit_div_two_pow]
  by_cases h : b ≤ i
  · rw [show i - b + b = i by omega]
    simp [h, Bool.and_comm]
  · simp [h]
theorem ub_mag (x : Int64) : ub (x &&& (9223372036854775807 : Int64)) = ub x % 9223372036854775808 := by
  rw [ub_and, show ub (9223372036854775807 : Int64) = 2 ^ 63 - 1 from by decide, Nat.and_two_pow_sub_one_eq_mod]
theorem ub_frac (x : Int64) : ub (x &&& (4503599627370495 : Int64)) = ub x % 4503599627370496 := by
  rw [ub_and, show ub (4503599627370495 : Int64) = 2 ^ 52 - 1 from by decide, Nat.and_two_pow_sub_one_eq_mod]
theorem ub_expf (x : Int64) : ub (x &&& (9218868437227405312 : Int64)) = ub x / 4503599627370496 % 2048 * 4503599627370496 := by
  rw [ub_and, show ub (9218868437227405312 : Int64) = (2 ^ 11 - 1) * 2 ^ 52 from by decide, n_field]
theorem ub_sgn (x : Int64) : ub (x &&& (-9223372036854775808 : Int64)) = if 9223372036854775808 ≤ ub x then 9223372036854775808 else 0 := by
  rw [ub_and, show ub (-9223372036854775808 : Int64) = (2 ^ 1 - 1) * 2 ^ 63 from by decide, n_field]
  have := ub_lt x
  split <;> omega
theorem n_or_top {a k b : Nat} (h : b < 2 ^ k) : 2 ^ k * a ||| b = 2 ^ k * a + b := by
  rw [Nat.two_pow_add_eq_or_of_lt h]
theorem ub_or_sgn {s x : Int64} (hs : ub s = 0 ∨ ub s = 9223372036854775808) (hx : ub x < 9223372036854775808) : ub (s ||| x) = ub s + ub x := by
  rw [ub_or]
  rcases hs with h | h <;> rw [h]
  · simp
  · rw [show (9223372036854775808 : Nat) = 2 ^ 63 * 1 from rfl, n_or_top (by omega)]

/-! PURE: order, sign, whole parts of doubles -/
theorem n_not {m k : Nat} (h : m < 2 ^ k) : m ^^^ (2 ^ k - 1) = 2 ^ k - (m + 1) := by
  apply Nat.eq_of_testBit_eq
  intro i
  rw [Nat.testBit_xor, Nat.testBit_two_pow_sub_one, Nat.testBit_two_pow_sub_succ h]
  by_cases c : i < k
  · simp [c]
  · have : m.testBit i = false := Nat.testBit_lt_two_pow (Nat.lt_of_lt_of_le h (Nat.pow_le_pow_right (by decide) (by omega)))
    simp [c, this]
theorem ub_flip (x : Int64) : ub (x ^^^ (9223372036854775807 : Int64)) = (dS x).toNat * 9223372036854775808 + (9223372036854775807 - mg x) := by
  have h := mg_sub (x := x)
  have hm : mg x < 9223372036854775808 := Nat.mod_lt _ (by decide)
  rw [ub_xor, show ub (9223372036854775807 : Int64) = 2 ^ 63 - 1 from by decide]
  have h1 : (ub x ^^^ (2 ^ 63 - 1)) % 2 ^ 63 = 9223372036854775807 - mg x := by
    rw [Nat.xor_mod_two_pow, show ub x % 2 ^ 63 = mg x from rfl, show (2 ^ 63 - 1) % 2 ^ 63 = 2 ^ 63 - 1 from rfl, n_not hm]; omega
  have h2 : (ub x ^^^ (2 ^ 63 - 1)) / 2 ^ 63 = (dS x).toNat := by
    rw [Nat.xor_div_two_pow, show (2 ^ 63 - 1) / 2 ^ 63 = 0 from rfl, Nat.xor_zero, h]
    cases dS x <;> simp <;> omega
  have h3 := Nat.div_add_mod (ub x ^^^ (2 ^ 63 - 1)) (2 ^ 63)
  rw [h1, h2] at h3
  omega
theorem dS_iff {x : Int64} : dS x = true ↔ 9223372036854775808 ≤ ub x := by unfold dS; exact decide_eq_true_iff
theorem dS_nn {x : Int64} : (0 : Int64) ≤ x ↔ dS x = false := by
  rw [ub_nn]
  cases h : dS x
  · have : ¬ _ := fun z => Bool.false_ne_true (h.symm.trans (dS_iff.mpr z))
    simp; omega
  · have := dS_iff.mp h
    simp; omega
theorem order_int (x : Int64) : (f_X5_order x).toInt = if dS x then -(mg x : Int) - 1 else (mg x : Int) := by
  have h := mg_sub (x := x)
  have hm : mg x < 9223372036854775808 := Nat.mod_lt _ (by decide)
  unfold f_X5_order
  cases hs : dS x
  · rw [if_pos (dS_nn.mpr hs), if_neg (by decide)]
    rw [hs] at h
    simp only [Bool.toNat_false] at h
    rw [ub_pos (by omega)]; omega
  · rw [if_neg (by rw [dS_nn, hs]; decide), if_pos rfl]
    have h2 := ub_flip x
    rw [hs] at h2
    simp only [Bool.toNat_true] at h2
    rw [ub_toInt, if_neg (by omega)]; omega
theorem orderz_int (x : Int64) : (f_X5_orderWithoutSignOfZero x).toInt = if mg x = 0 then 0 else if dS x then -(mg x : Int) - 1 else (mg x : Int) := by
  have h := mg_sub (x := x)
  have hm : mg x < 9223372036854775808 := Nat.mod_lt _ (by decide)
  unfold f_X5_orderWithoutSignOfZero
  have hc : x = (-9223372036854775808 : Int64) ↔ dS x = true ∧ mg x = 0 := by
    rw [ub_inj, show ub (-9223372036854775808 : Int64) = 9223372036854775808 from by decide]
    cases hs : dS x <;> rw [hs] at h <;> simp at h ⊢ <;> omega
  by_cases c : x = (-9223372036854775808 : Int64)
  · rw [if_pos c, if_pos (hc.mp c).2]; rfl
  · rw [if_neg c, order_int]
    by_cases c2 : mg x = 0
    · rw [if_pos c2, if_neg (fun z => c (hc.mpr ⟨z, c2⟩)), c2]; rfl
    · rw [if_neg c2]
theorem sub_cases {x : Int64} (h : mg x = 0) : x = 0 ∨ x = -9223372036854775808 := by
  have h2 := mg_sub (x := x)
  rw [h] at h2
  rw [ub_inj, ub_inj, show ub (0 : Int64) = 0 from rfl, show ub (-9223372036854775808 : Int64) = 9223372036854775808 from by decide]
  cases hs : dS x <;> rw [hs] at h2 <;> simp at h2
  · exact .inl h2
  · exact .inr h2
theorem belowz_ok (x : Int64) : f_X12_isBelowZero x.toUInt64 = some (if nN x ∧ dS x = true then 1 else 0) := by
  by_cases h0 : mg x = 0
  · rcases sub_cases h0 with h | h
    · subst h
      have : f_X12_isBelowZero (0 : Int64).toUInt64 = some 0 := by unfold f_X12_isBelowZero f_X12_isBelowZero_20; decide +kernel
      rw [this, if_neg (by decide)]
    · subst h
      have : f_X12_isBelowZero (-9223372036854775808 : Int64).toUInt64 = some 1 := by unfold f_X12_isBelowZero f_X12_isBelowZero_20; decide +kernel
      rw [this, if_pos (by constructor; unfold nN; decide; decide)]
  · unfold f_X12_isBelowZero f_X12_isBelowZero_20
    have hz := z_eq (x := x)
    have hl := cg_lt (x := x) (y := 0)
    rw [← d0_u, kx_0] at hl
    simp only [hz, hl, h0, if_false]
    have e : (nN x ∧ nN (0 : Int64) ∧ kx x < 0) ↔ (nN x ∧ dS x = true) := by
      unfold kx
      cases dS x
      · constructor
        · rintro ⟨-, -, z⟩
          have z2 : (mg x : Int) < 0 := z
          omega
        · rintro ⟨-, z⟩; cases z
      · constructor
        · rintro ⟨z, -, -⟩; exact ⟨z, rfl⟩
        · rintro ⟨z, -⟩
          refine ⟨z, nN_0, ?_⟩
          show -(mg x : Int) < 0
          omega
    simp only [e]
    by_cases c : nN x ∧ dS x = true
    · rw [if_pos c, if_pos c]
    · rw [if_neg c, if_neg c]
theorem nan_is {x : Int64} (h : vcan x) (hn : ¬ nN x) : x = 9221120237041090560 := vcan_iff.mp h hn
theorem ord_lt {x y : Int64} : f_X5_order y < f_X5_order x ↔ (if dS y then -(mg y : Int) - 1 else (mg y : Int)) < (if dS x then -(mg x : Int) - 1 else (mg x : Int)) := by
  rw [l_lt, order_int, order_int]
theorem above_ok {x y : Int64} (hx : vcan x) (hy : vcan y) : f_X12_isAbove x.toUInt64 y.toUInt64 = some (if f_X5_order y < f_X5_order x then 1 else 0) := by
  unfold f_X12_isAbove f_X12_isAbove_12 f_X12_isAbove_56
  simp only [self_eq, belowz_ok, Option.bind_some, cl_gt, cl_eq, ord_lt]
  by_cases h1 : nN x
  · by_cases h2 : nN y
    · rw [if_pos h1, if_pos h2]
      simp only [h1, h2, true_and]
      unfold kx
      unfold nN at h1 h2
      cases dS x <;> cases dS y <;> simp only [Bool.false_eq_true, if_false, if_true, reduceIte, show ((1 : Int32) = 0) = False from by decide]
      · by_cases c : (mg y : Int) < mg x
        · rw [if_pos c, if_pos c]
        · rw [if_neg c]
          split <;> rfl
      · by_cases c : -(mg y : Int) < mg x
        · rw [if_pos c, if_pos (by omega)]
        · rw [if_neg c, if_pos (by omega), if_pos (by omega)]
      · rw [if_neg (by omega), if_neg (show ¬ ((mg y : Int) < -(mg x : Int) - 1) by omega)]
        split <;> rfl
      · by_cases c : -(mg y : Int) < -(mg x : Int)
        · rw [if_pos c, if_pos (by omega)]
        · rw [if_neg c, if_neg (show ¬ (-(mg y : Int) - 1 < -(mg x : Int) - 1) by omega)]
          split <;> rfl
    · rw [if_pos h1, if_neg h2, if_pos h1]
      have := nan_is hy h2
      subst this
      rw [if_neg]
      rw [show dS (9221120237041090560 : Int64) = false from by decide, show mg (9221120237041090560 : Int64) = 9221120237041090560 from by decide]
      unfold nN at h1
      cases dS x <;> simp <;> omega
  · rw [if_neg h1, if_neg h1]
    have := nan_is hx h1
    subst this
    rw [show dS (9221120237041090560 : Int64) = false from by decide, show mg (9221120237041090560 : Int64) = 9221120237041090560 from by decide]
    by_cases h2 : nN y
    · rw [if_pos h2, if_pos]
      unfold nN at h2
      cases dS y <;> simp <;> omega
    · rw [if_neg h2]
      have := nan_is hy h2
      subst this
      rw [if_neg (by decide)]
theorem power_int (x : Int64) : (f_X5_power x).toInt = ((ub x / 4503599627370496 % 2048 : Nat) : Int) - 1023 := by
  have h := expo_field x
  have t : (1023 : Int32).toInt = 1023 := by decide
  unfold f_X5_power
  rw [i_sub (by rw [h, t]; omega) (by rw [h, t]; omega), h, t]
theorem l_of {n : Int} (h1 : -9223372036854775808 ≤ n) (h2 : n ≤ 9223372036854775807) : (Int64.ofInt n).toInt = n := Int64.toInt_ofInt_of_le h1 (by show n < 9223372036854775808; omega)
theorem dS_ub {x : Int64} : ub x / 4503599627370496 % 2048 = mg x / 4503599627370496 ∧ ub x % 4503599627370496 = mg x % 4503599627370496 := by unfold mg; omega
theorem cutOff_ok (x : Int64) : f_X5_cutOff x = FP.d2l x.toUInt64 := by
  have hP := power_int x
  obtain ⟨hE, hT⟩ := dS_ub (x := x)
  have hm : mg x < 9223372036854775808 := Nat.mod_lt _ (by decide)
  show _ = Int64.ofInt (FP.Core.toInt (-2 ^ 63) (2 ^ 63 - 1) (dv x))
  unfold f_X5_cutOff f_X5_cutOff_71
  simp only [jlet, isNot_ok]
  have t63 : (63 : Int32).toInt = 63 := by decide
  have t52 : (52 : Int32).toInt = 52 := by decide
  have trunc : ∀ (s : Bool) (M : Nat) (v : Int64), ub v = M → M < 9223372036854775808 → (if dS x = false then v else -v) = Int64.ofInt (FP.Core.signed (dS x) M) := by
    intro s M v hv hM
    cases dS x
    · rw [if_pos rfl, l_eq, ub_pos (by omega), hv]
      show (M : Int) = (Int64.ofInt (M : Int)).toInt
      rw [l_of (by omega) (by omega)]
    · rw [if_neg (by decide), l_eq]
      show _ = (Int64.ofInt (-(M : Int))).toInt
      rw [l_of (by omega) (by omega), ub_toInt, ub_neg, hv]
      by_cases c : M = 0
      · rw [c]; rfl
      · rw [if_neg (by omega)]; omega
  by_cases hn : mg x ≤ 9218868437227405312
  · rw [if_pos hn, if_pos rfl]
    by_cases c1 : (0 : Int32) ≤ f_X5_power x
    · rw [if_pos c1]
      rw [i_le, t_0, hP] at c1
      by_cases c2 : f_X5_power x < (63 : Int32)
      · rw [if_pos c2]
        rw [i_lt, t63, hP] at c2
        have hv : dv x = .fin (dS x) (4503599627370496 + ub x % 4503599627370496) ((ub x / 4503599627370496 % 2048 : Nat) - 1075) := by
          rw [dv_eq, if_neg (by omega), if_neg (by omega)]
        rw [hv]
        have hmant : ub ((x &&& (4503599627370495 : Int64)) ||| (4503599627370496 : Int64)) = 4503599627370496 + ub x % 4503599627370496 := by
          rw [ub_or, ub_frac, show ub (4503599627370496 : Int64) = 2 ^ 52 * 1 from by decide, Nat.or_comm, n_or_top (Nat.mod_lt _ (by decide))]
        have hcl : ∀ M : Nat, M < 9223372036854775808 → max (-2 ^ 63 : Int) (min (2 ^ 63 - 1) (FP.Core.signed (dS x) M)) = FP.Core.signed (dS x) M := by
          intro M hM
          cases dS x <;> simp [FP.Core.signed] <;> omega
        by_cases c3 : f_X5_power x ≤ (52 : Int32)
        · rw [if_pos c3]
          rw [i_le, t52, hP] at c3
          obtain ⟨k, hk⟩ : ∃ k : Nat, ((ub x / 4503599627370496 % 2048 : Nat) : Int) - 1075 = -(k : Int) := ⟨(1075 - (ub x / 4503599627370496 % 2048 : Nat)), by omega⟩
          have hsh : ((52 : Int32) - f_X5_power x).toInt = k := by
            rw [i_sub (by rw [hP, t52]; omega) (by rw [hP, t52]; omega), hP, t52]; omega
          have hv2 := ub_shr ((x &&& (4503599627370495 : Int64)) ||| (4503599627370496 : Int64)) hsh (by omega)
          rw [hmant] at hv2
          have hle : (4503599627370496 + ub x % 4503599627370496) / 2 ^ k ≤ 4503599627370496 + ub x % 4503599627370496 := Nat.div_le_self _ _
          simp only [dS_nn]
          rw [trunc true _ _ hv2 (by omega), hk]
          show _ = Int64.ofInt (max (-2 ^ 63) (min (2 ^ 63 - 1) (FP.Core.signed (dS x) ((4503599627370496 + ub x % 4503599627370496) * 2 ^ (-(k : Int)).toNat / 2 ^ (-(-(k : Int))).toNat))))
          rw [show (-(k : Int)).toNat = 0 by omega, show (-(-(k : Int))).toNat = k by omega, Nat.pow_zero, Nat.mul_one, hcl _ (by omega)]
        · rw [if_neg c3]
          rw [i_le, t52, hP] at c3
          obtain ⟨k, hk⟩ : ∃ k : Nat, ((ub x / 4503599627370496 % 2048 : Nat) : Int) - 1075 = (k : Int) := ⟨((ub x / 4503599627370496 % 2048 : Nat) - 1075), by omega⟩
          have hsh : (f_X5_power x - (52 : Int32)).toInt = k := by
            rw [i_sub (by rw [hP, t52]; omega) (by rw [hP, t52]; omega), hP, t52]; omega
          have hpk : 2 ^ k ≤ 2 ^ 10 := Nat.pow_le_pow_right (by decide) (by omega)
          have hmul : (4503599627370496 + ub x % 4503599627370496) * 2 ^ k ≤ 9007199254740991 * 2 ^ 10 := Nat.mul_le_mul (by omega) hpk
          have hv2 := ub_shl ((x &&& (4503599627370495 : Int64)) ||| (4503599627370496 : Int64)) hsh (by omega)
          rw [hmant, Nat.mod_eq_of_lt (by omega)] at hv2
          simp only [dS_nn]
          rw [trunc true _ _ hv2 (by omega), hk]
          show _ = Int64.ofInt (max (-2 ^ 63) (min (2 ^ 63 - 1) (FP.Core.signed (dS x) ((4503599627370496 + ub x % 4503599627370496) * 2 ^ ((k : Int)).toNat / 2 ^ (-(k : Int)).toNat))))
          rw [show ((k : Int)).toNat = k by omega, show (-(k : Int)).toNat = 0 by omega, Nat.pow_zero, Nat.div_one, hcl _ (by omega)]
      · rw [if_neg c2]
        rw [i_lt, t63, hP] at c2
        have hbig : FP.Core.toInt (-2 ^ 63) (2 ^ 63 - 1) (dv x) = if dS x then -2 ^ 63 else 2 ^ 63 - 1 := by
          by_cases c4 : mg x = 9218868437227405312
          · rw [dv_inf c4]; rfl
          · have hv : dv x = .fin (dS x) (4503599627370496 + ub x % 4503599627370496) ((ub x / 4503599627370496 % 2048 : Nat) - 1075) := by
              rw [dv_eq, if_neg (by omega), if_neg (by omega)]
            obtain ⟨k, hk⟩ : ∃ k : Nat, ((ub x / 4503599627370496 % 2048 : Nat) : Int) - 1075 = (k : Int) := ⟨((ub x / 4503599627370496 % 2048 : Nat) - 1075), by omega⟩
            rw [hv, hk]
            show max (-2 ^ 63) (min (2 ^ 63 - 1) (FP.Core.signed (dS x) ((4503599627370496 + ub x % 4503599627370496) * 2 ^ ((k : Int)).toNat / 2 ^ (-(k : Int)).toNat))) = _
            rw [show ((k : Int)).toNat = k by omega, show (-(k : Int)).toNat = 0 by omega, Nat.pow_zero, Nat.div_one]
            have hpk : 2 ^ 11 ≤ 2 ^ k := Nat.pow_le_pow_right (by decide) (by omega)
            have hmul : 4503599627370496 * 2 ^ 11 ≤ (4503599627370496 + ub x % 4503599627370496) * 2 ^ k := Nat.mul_le_mul (by omega) hpk
            generalize (4503599627370496 + ub x % 4503599627370496) * 2 ^ k = Z at *
            cases dS x <;> simp [FP.Core.signed] <;> omega
        rw [hbig]
        simp only [dS_nn]
        cases dS x
        · rw [if_pos rfl]; decide
        · rw [if_neg (by decide)]; decide
    · rw [if_neg c1]
      rw [i_le, t_0, hP] at c1
      have hz : FP.Core.toInt (-2 ^ 63) (2 ^ 63 - 1) (dv x) = 0 := by
        by_cases c5 : ub x / 4503599627370496 % 2048 = 0
        · rw [dv_eq, if_neg (by omega), if_pos c5]
          show max (-2 ^ 63) (min (2 ^ 63 - 1) (FP.Core.signed (dS x) (ub x % 4503599627370496 * 1 / 2 ^ 1074))) = 0
          rw [Nat.mul_one, Nat.div_eq_of_lt (Nat.lt_of_lt_of_le (Nat.mod_lt _ (by decide)) (by decide +kernel))]
          cases dS x <;> decide
        · rw [dv_eq, if_neg (by omega), if_neg c5]
          obtain ⟨k, hk⟩ : ∃ k : Nat, ((ub x / 4503599627370496 % 2048 : Nat) : Int) - 1075 = -(k : Int) := ⟨(1075 - (ub x / 4503599627370496 % 2048 : Nat)), by omega⟩
          rw [hk]
          show max (-2 ^ 63) (min (2 ^ 63 - 1) (FP.Core.signed (dS x) ((4503599627370496 + ub x % 4503599627370496) * 2 ^ (-(k : Int)).toNat / 2 ^ (-(-(k : Int))).toNat))) = 0
          have hpk : 2 ^ 53 ≤ 2 ^ k := Nat.pow_le_pow_right (by decide) (by omega)
          rw [show (-(k : Int)).toNat = 0 by omega, show (-(-(k : Int))).toNat = k by omega, Nat.pow_zero, Nat.mul_one, Nat.div_eq_of_lt (by omega)]
          cases dS x <;> decide
      rw [hz]; rfl
  · rw [if_neg hn, if_neg (by decide), (dv_nan x).mpr (by omega)]
    rfl

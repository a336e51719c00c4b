/-! PURE: the class's double arithmetic: mantissa, exponent, sum, product -/
def mg (x : Int64) : Nat := ub x % 9223372036854775808
theorem mg_u (x : Int64) : mg x = x.toUInt64.toNat % 2 ^ 63 := rfl
theorem dv_nan (x : Int64) : dv x = .nan ↔ 9218868437227405312 < mg x := by
  have h := FP.Core.ne_nan x.toUInt64
  rw [← mg_u] at h
  show FP.Core.val64 x.toUInt64 = .nan ↔ _
  constructor
  · intro q; refine Nat.not_le.mp (fun z => (h.mpr z) q)
  · intro q
    refine Decidable.byContradiction (fun z => ?_)
    have := h.mp z; omega
theorem dv_inf {x : Int64} (h : mg x = 9218868437227405312) : dv x = .inf (dS x) := by
  unfold mg at h
  rw [dv_eq, if_pos (by omega), if_pos (by omega)]
theorem dv_fin {x : Int64} (h : mg x < 9218868437227405312) : ∃ c q, dv x = .fin (dS x) c q ∧ (c = 0 ↔ mg x = 0) ∧ -1074 ≤ q ∧ q ≤ 971 := by
  unfold mg at *
  rw [dv_eq, if_neg (by omega)]
  by_cases h0 : ub x / 4503599627370496 % 2048 = 0
  · rw [if_pos h0]; exact ⟨_, _, rfl, by omega, by omega, by omega⟩
  · rw [if_neg h0]; exact ⟨_, _, rfl, by omega, by omega, by omega⟩
theorem dv_zero {x : Int64} (h : mg x = 0) : dv x = .fin (dS x) 0 (-1074) := by
  unfold mg at h
  rw [dv_eq, if_neg (by omega), if_pos (by omega), show ub x % 4503599627370496 = 0 by omega]
theorem mg_sub {x : Int64} : ub x = (dS x).toNat * 9223372036854775808 + mg x := by
  unfold dS mg
  have := ub_lt x
  by_cases h : 9223372036854775808 ≤ ub x
  · rw [decide_eq_true h]; simp only [Bool.toNat_true]; omega
  · rw [decide_eq_false h]; simp only [Bool.toNat_false]; omega
theorem ub_sg (x : Int64) : ub (x &&& (-9223372036854775808 : Int64)) = (dS x).toNat * 9223372036854775808 := by
  rw [ub_sgn]
  unfold dS
  by_cases h : 9223372036854775808 ≤ ub x
  · rw [if_pos h, decide_eq_true h]; rfl
  · rw [if_neg h, decide_eq_false h]; rfl
theorem isNot_ok (x : Int64) : f_X5_isNot x = if mg x ≤ 9218868437227405312 then 0 else 1 := by
  unfold f_X5_isNot
  have h : (x &&& (9223372036854775807 : Int64)) ≤ (9218868437227405312 : Int64) ↔ mg x ≤ 9218868437227405312 := by
    rw [ub_lle (by rw [ub_mag]; omega) (by decide), ub_mag, show ub (9218868437227405312 : Int64) = 9218868437227405312 from by decide]; rfl
  by_cases c : mg x ≤ 9218868437227405312
  · rw [if_pos c, if_pos (h.mpr c)]
  · rw [if_neg c, if_neg (fun z => c (h.mp z))]
theorem mag_0 {x : Int64} : (x &&& (9223372036854775807 : Int64)) = (0 : Int64) ↔ mg x = 0 := by
  rw [ub_inj, ub_mag, show ub (0 : Int64) = 0 from by decide]; rfl
theorem mag_i {x : Int64} : (x &&& (9223372036854775807 : Int64)) = (9218868437227405312 : Int64) ↔ mg x = 9218868437227405312 := by
  rw [ub_inj, ub_mag, show ub (9218868437227405312 : Int64) = 9218868437227405312 from by decide]; rfl
theorem mag_lt {x y : Int64} : (x &&& (9223372036854775807 : Int64)) < (y &&& (9223372036854775807 : Int64)) ↔ mg x < mg y := by
  rw [ub_llt (by rw [ub_mag]; omega) (by rw [ub_mag]; omega), ub_mag, ub_mag]; rfl
theorem mag_le {x y : Int64} : (x &&& (9223372036854775807 : Int64)) ≤ (y &&& (9223372036854775807 : Int64)) ↔ mg x ≤ mg y := by
  rw [ub_lle (by rw [ub_mag]; omega) (by rw [ub_mag]; omega), ub_mag, ub_mag]; rfl
theorem t_1sh : (1 : Int32).toInt = (1 : Nat) := by decide
theorem norm_mant : ∀ (k fuel fuel2 : Nat) (m : Int64) (i e : Int32) (M : Nat), k < fuel → k < fuel2 → ub m = M → M < 9007199254740992 → 4503599627370496 ≤ M * 2 ^ k → i.toInt = 52 - (k : Int) → e.toInt = -1126 + (k : Int) → k ≤ 52 →
    ∃ (m' : Int64) (e' : Int32) (j : Nat), f_X5_mantissa_29 fuel m i = some m' ∧ f_X5_exponent_31 fuel2 e m = some e' ∧ ub m' = M * 2 ^ j ∧ e'.toInt = e.toInt - j ∧ j ≤ k ∧ 4503599627370496 ≤ M * 2 ^ j ∧ M * 2 ^ j < 9007199254740992 := by
  have t1126 : (-1126 : Int32).toInt = -1126 := by decide
  have tb : ub (4503599627370496 : Int64) = 4503599627370496 := by decide
  have t52 : (52 : Int32).toInt = 52 := by decide
  intro k
  induction k with
  | zero =>
    intro fuel fuel2 m i e M hf hf2 hm hM hge hi he hk
    obtain ⟨n, rfl⟩ : ∃ n, fuel = n + 1 := ⟨fuel - 1, by omega⟩
    obtain ⟨n2, rfl⟩ : ∃ n, fuel2 = n + 1 := ⟨fuel2 - 1, by omega⟩
    unfold f_X5_mantissa_29 f_X5_exponent_31
    rw [if_pos (show (52 : Int32) ≤ i by rw [i_le, hi, t52]; omega), if_pos (show e ≤ (-1126 : Int32) by rw [i_le, he, t1126]; omega)]
    exact ⟨m, e, 0, rfl, rfl, by simpa using hm, by simp, by omega, by simpa using hge, by simpa using hM⟩
  | succ k ih =>
    intro fuel fuel2 m i e M hf hf2 hm hM hge hi he hk
    obtain ⟨n, rfl⟩ : ∃ n, fuel = n + 1 := ⟨fuel - 1, by omega⟩
    obtain ⟨n2, rfl⟩ : ∃ n, fuel2 = n + 1 := ⟨fuel2 - 1, by omega⟩
    unfold f_X5_mantissa_29 f_X5_exponent_31
    rw [if_neg (show ¬ (52 : Int32) ≤ i by rw [i_le, hi, t52]; omega), if_neg (show ¬ e ≤ (-1126 : Int32) by rw [i_le, he, t1126]; omega)]
    have hc : (4503599627370496 : Int64) ≤ m ↔ 4503599627370496 ≤ M := by
      rw [ub_lle (by decide) (by omega), tb, hm]
    by_cases c : 4503599627370496 ≤ M
    · rw [if_pos (hc.mpr c), if_pos (hc.mpr c)]
      exact ⟨m, e, 0, rfl, rfl, by simpa using hm, by simp, by omega, by simpa using c, by simpa using hM⟩
    · rw [if_neg (fun z => c (hc.mp z)), if_neg (fun z => c (hc.mp z))]
      simp only [jlet]
      have h1 : ub (m <<< ((1 : Int32).toInt64 &&& 63)) = M * 2 := by
        rw [ub_shl m t_1sh (by decide), hm]; omega
      have hi1 : (i + (1 : Int32)).toInt = 52 - (k : Int) := by rw [i_add1 (by omega)]; omega
      have he1 : (e + (-1 : Int32)).toInt = -1126 + (k : Int) := by
        rw [i_add (by rw [he, t_m1]; omega) (by rw [he, t_m1]; omega), he, t_m1]; omega
      have o1 : k < n := Nat.lt_of_succ_lt_succ hf
      have o2 : k < n2 := Nat.lt_of_succ_lt_succ hf2
      have o3 : M * 2 < 9007199254740992 := by clear hge; omega
      have o4 : k ≤ 52 := Nat.le_of_succ_le hk
      have hge2 : 4503599627370496 ≤ M * 2 * 2 ^ k := by rw [Nat.mul_assoc, ← Nat.pow_succ']; exact hge
      obtain ⟨m', e', j, g1, g2, g3, g4, g5, g6, g7⟩ := ih n n2 _ _ _ (M * 2) o1 o2 h1 o3 hge2 hi1 he1 o4
      have hp : M * 2 * 2 ^ j = M * 2 ^ (j + 1) := by rw [Nat.mul_assoc, ← Nat.pow_succ']
      have o5 : e'.toInt = e.toInt - ((j + 1 : Nat) : Int) := by
        clear g6 g7 g3 hp hge hge2
        rw [g4, he1, he]; omega
      rw [hp] at g3 g6 g7
      exact ⟨m', e', j + 1, g1, g2, g3, o5, Nat.succ_le_succ g5, g6, g7⟩
theorem expo_field (x : Int64) : (((x &&& (9218868437227405312 : Int64)).toUInt64 >>> ((52 : Int32).toInt64.toUInt64 &&& Int64.toUInt64 63)).toInt64).toInt32.toInt = ((ub x / 4503599627370496 % 2048 : Nat) : Int) := by
  have h : ub (((x &&& (9218868437227405312 : Int64)).toUInt64 >>> ((52 : Int32).toInt64.toUInt64 &&& Int64.toUInt64 63)).toInt64) = ub x / 4503599627370496 % 2048 := by
    rw [ub_shr _ t_52 (by decide), ub_expf]; omega
  have h2 := ub_pos (x := ((x &&& (9218868437227405312 : Int64)).toUInt64 >>> ((52 : Int32).toInt64.toUInt64 &&& Int64.toUInt64 63)).toInt64) (by omega)
  rw [l2i (by omega) (by omega), h2, h]
theorem mant_ok {x : Int64} (h0 : mg x ≠ 0) (hf : mg x < 9218868437227405312) : ∃ (m : Int64) (e : Int32) (c : Nat) (q : Int), f_X5_mantissa x = some m ∧ f_X5_exponent x = some e ∧ 4503599627370496 ≤ ub m ∧ ub m < 9007199254740992 ∧ -1126 ≤ e.toInt ∧ e.toInt ≤ 971 ∧ dv x = .fin (dS x) c q ∧ c ≠ 0 ∧ e.toInt ≤ q ∧ ub m = c * 2 ^ (q - e.toInt).toNat ∧ -1074 ≤ q ∧ q ≤ 971 := by
  unfold mg at h0 hf
  have hE := expo_field x
  unfold f_X5_mantissa f_X5_exponent
  simp only [jlet]
  have hz : (x &&& (9218868437227405312 : Int64)) = (0 : Int64) ↔ ub x / 4503599627370496 % 2048 = 0 := by
    rw [ub_inj, ub_expf, show ub (0 : Int64) = 0 from by decide]; omega
  have hz2 : (((x &&& (9218868437227405312 : Int64)).toUInt64 >>> ((52 : Int32).toInt64.toUInt64 &&& Int64.toUInt64 63)).toInt64).toInt32 = 0 ↔ ub x / 4503599627370496 % 2048 = 0 := by
    rw [i_eq, hE, t_0]; omega
  by_cases c : ub x / 4503599627370496 % 2048 = 0
  · rw [if_pos (hz.mpr c), if_pos (hz2.mpr c)]
    have t1074 : (-1074 : Int32).toInt = -1074 := by decide
    obtain ⟨m', e', j, g1, g2, g3, g4, g5, g6, g7⟩ := norm_mant 52 1100000 1100000 (x &&& (4503599627370495 : Int64)) 0 (-1074) (ub x % 4503599627370496) (by decide) (by decide) (ub_frac x) (by omega) (by omega) (by decide) (by decide) (by decide)
    rw [t1074] at g4
    refine ⟨m', e', ub x % 4503599627370496, -1074, g1, g2, by rw [g3]; exact g6, by rw [g3]; exact g7, by omega, by omega, ?_, by omega, by omega, ?_, by omega, by omega⟩
    · rw [dv_eq, if_neg (by omega), if_pos c]
    · rw [g3, show (-1074 - e'.toInt).toNat = j by omega]
  · rw [if_neg (fun z => c (hz.mp z)), if_neg (fun z => c (hz2.mp z))]
    have t1075 : (1075 : Int32).toInt = 1075 := by decide
    have hs : ((((x &&& (9218868437227405312 : Int64)).toUInt64 >>> ((52 : Int32).toInt64.toUInt64 &&& Int64.toUInt64 63)).toInt64).toInt32 - (1075 : Int32)).toInt = ((ub x / 4503599627370496 % 2048 : Nat) : Int) - 1075 := by
      rw [i_sub (by rw [hE, t1075]; omega) (by rw [hE, t1075]; omega), hE, t1075]
    have hm : ub ((x &&& (4503599627370495 : Int64)) ||| (4503599627370496 : Int64)) = 4503599627370496 + ub x % 4503599627370496 := by
      rw [ub_or, ub_frac, show ub (4503599627370496 : Int64) = 2 ^ 52 * 1 from by decide, Nat.or_comm, n_or_top (Nat.mod_lt _ (by decide))]
    refine ⟨_, _, 4503599627370496 + ub x % 4503599627370496, ((ub x / 4503599627370496 % 2048 : Nat) : Int) - 1075, rfl, rfl, by omega, by omega, by omega, by omega, ?_, by omega, by omega, ?_, by omega, by omega⟩
    · rw [dv_eq, if_neg (by omega), if_neg c]
    · rw [hm, hs, show ((((ub x / 4503599627370496 % 2048 : Nat) : Int) - 1075) - (((ub x / 4503599627370496 % 2048 : Nat) : Int) - 1075)).toNat = 0 by omega]; simp
theorem xor_ng {a b : Int64} : (a ^^^ b) < (0 : Int64) ↔ dS a ≠ dS b := by
  rw [ub_ng, ub_xor]
  have hb : ∀ x : Int64, dS x = (ub x).testBit 63 := fun x => by
    unfold dS
    rw [Nat.testBit_eq_decide_div_mod_eq]
    have := ub_lt x
    exact decide_eq_decide.mpr (by omega)
  have hx : ub (a ^^^ b) < 18446744073709551616 := ub_lt _
  rw [ub_xor] at hx
  have h1 : 9223372036854775808 ≤ ub a ^^^ ub b ↔ (ub a ^^^ ub b).testBit 63 = true := by
    rw [Nat.testBit_eq_decide_div_mod_eq, decide_eq_true_eq]; omega
  rw [h1, Nat.testBit_xor, ← hb, ← hb]
  cases dS a <;> cases dS b <;> decide
theorem ub_sx (a b : Int64) : ub ((a ^^^ b) &&& (-9223372036854775808 : Int64)) = (dS a != dS b).toNat * 9223372036854775808 := by
  rw [ub_sg]
  congr 2
  have h := xor_ng (a := a) (b := b)
  rw [ub_ng] at h
  unfold dS at h ⊢
  by_cases c : 9223372036854775808 ≤ ub (a ^^^ b)
  · rw [decide_eq_true c]
    have := h.mp c
    revert this
    cases decide (9223372036854775808 ≤ ub a) <;> cases decide (9223372036854775808 ≤ ub b) <;> decide
  · rw [decide_eq_false c]
    have : ¬ _ := fun z => c (h.mpr z)
    revert this
    cases decide (9223372036854775808 ≤ ub a) <;> cases decide (9223372036854775808 ≤ ub b) <;> decide
/-- a part that is dropped, told by the last bit -/
theorem n_sticky {X D : Nat} (hD : 0 < D) (L : Nat) (hL : L = X / D ||| (if X % D = 0 then 0 else 1)) : L * D = X ∨ (X % D ≠ 0 ∧ L % 2 = 1 ∧ L * D < X + D ∧ X < L * D + D) := by
  have h := Nat.div_add_mod X D
  have hlt := Nat.mod_lt X hD
  rw [Nat.mul_comm] at h
  by_cases c : X % D = 0
  · rw [if_pos c, Nat.or_zero] at hL
    left; rw [hL]; omega
  · rw [if_neg c] at hL
    right
    have h2 : L = X / D ∧ X / D % 2 = 1 ∨ L = X / D + 1 ∧ X / D % 2 = 0 := by
      have e1 : X / D = 2 ^ 1 * (X / D / 2) + X / D % 2 := by omega
      rcases Nat.mod_two_eq_zero_or_one (X / D) with q | q
      · right
        refine ⟨?_, q⟩
        rw [hL, e1, q, Nat.add_zero, n_or_top (by decide)]
      · left
        refine ⟨?_, q⟩
        rw [hL]
        conv => lhs; lhs; rw [e1, q]
        rw [← n_or_top (by decide), Nat.or_assoc, show (1 ||| 1 : Nat) = 1 from rfl, n_or_top (by decide)]
        omega
    refine ⟨c, by omega, ?_, ?_⟩
    · rcases h2 with ⟨q, -⟩ | ⟨q, -⟩ <;> rw [q] <;> (try rw [Nat.add_mul]) <;> omega
    · rcases h2 with ⟨q, -⟩ | ⟨q, -⟩ <;> rw [q] <;> (try rw [Nat.add_mul]) <;> omega

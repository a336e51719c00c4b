/-! PURE: near of doubles -/
theorem near_addm {A M B : Nat} (hB : 0 < B) (hM : M % 2 = 0) : FP.Core.nearest (A + M * B) B = M + FP.Core.nearest A B := by
  unfold FP.Core.nearest
  rw [Nat.add_mul_mod_self_right, Nat.add_mul_div_right _ _ hB]
  split
  · omega
  · split
    · omega
    · omega
theorem dv_two52 : dv (4841369599423283200 : Int64) = .fin false 4503599627370496 0 := by decide +kernel
theorem near_add {w : Int64} {c k : Nat} (hw : dv w = .fin false c (-(k : Int))) (hk1 : 1 ≤ k) (hk2 : k ≤ 1074) (hc : c < 4503599627370496 * 2 ^ k) : FP.Core.val64 (FP.dadd w.toUInt64 (4841369599423283200 : UInt64)) = FP.Core.roundRatio FP.Core.b64 false (4503599627370496 + FP.Core.nearest c (2 ^ k)) 1 0 ∧ FP.Core.nearest c (2 ^ k) ≤ 4503599627370496 := by
  have hp := Nat.two_pow_pos k
  have hle : FP.Core.nearest c (2 ^ k) ≤ 4503599627370496 := FP.Core.nearest_le hp (by omega)
  refine ⟨?_, hle⟩
  have h1 : FP.Core.val64 (FP.dadd w.toUInt64 (4841369599423283200 : UInt64)) = FP.Core.round FP.Core.b64 (FP.Core.exactSum (dv w) (dv (4841369599423283200 : Int64))) := by
    rw [two52]; exact FP.Core.val64_dadd _ _
  rw [h1, hw, dv_two52]
  show FP.Core.round FP.Core.b64 (.fin (FP.Core.sumSign false false (FP.Core.signed false (c * 2 ^ (-(k : Int) - min (-(k : Int)) 0).toNat) + FP.Core.signed false (4503599627370496 * 2 ^ ((0 : Int) - min (-(k : Int)) 0).toNat))) (FP.Core.signed false (c * 2 ^ (-(k : Int) - min (-(k : Int)) 0).toNat) + FP.Core.signed false (4503599627370496 * 2 ^ ((0 : Int) - min (-(k : Int)) 0).toNat)).natAbs (min (-(k : Int)) 0)) = _
  rw [signed_same, round_signed, show min (-(k : Int)) 0 = -(k : Int) by omega, show (-(k : Int) - -(k : Int)).toNat = 0 by omega, show ((0 : Int) - -(k : Int)).toNat = k by omega, Nat.pow_zero, Nat.mul_one]
  have hne : c + 4503599627370496 * 2 ^ k ≠ 0 := by omega
  rw [if_neg hne]
  have hQ : FP.Core.quantum FP.Core.b64 (c + 4503599627370496 * 2 ^ k) 1 (-(k : Int)) = 0 := by
    refine FP.Core.quantum_eq (by omega) Nat.one_pos (by rw [b_q]; decide) ?_ ?_
    · have : (0 : Int) - -(k : Int) + FP.Core.b64.p = ((k + 53 : Nat) : Int) - (0 : Nat) := by rw [b_p]; omega
      rw [this, FP.Core.below_iff, Nat.pow_add]; omega
    · refine .inr ?_
      have : (0 : Int) - -(k : Int) + ((FP.Core.b64.p : Int) - 1) = ((k + 52 : Nat) : Int) - (0 : Nat) := by rw [b_p]; omega
      rw [this, FP.Core.below_iff, Nat.pow_add]; omega
  have hl : FP.Core.roundRatio FP.Core.b64 false (c + 4503599627370496 * 2 ^ k) 1 (-(k : Int)) = FP.Core.settle FP.Core.b64 false (4503599627370496 + FP.Core.nearest c (2 ^ k)) 0 := by
    unfold FP.Core.roundRatio FP.Core.roundAt
    rw [if_neg hne, hQ]
    unfold FP.Core.unitsNum FP.Core.unitsDen
    rw [show (-(k : Int) - 0).toNat = 0 by omega, show ((0 : Int) - -(k : Int)).toNat = k by omega, Nat.pow_zero, Nat.mul_one, Nat.one_mul, near_addm hp (by decide)]
  rw [hl]
  exact settle_rr (by omega) (by omega) (by decide) (by decide)
theorem near_whole {w : Int64} {c k : Nat} (hw : dv w = .fin false c (-(k : Int))) (hk1 : 1 ≤ k) (hk2 : k ≤ 1074) (hc : c < 4503599627370496 * 2 ^ k) : jnn (FP.dadd w.toUInt64 (4841369599423283200 : UInt64)) = true ∧ FP.dsub (FP.dadd w.toUInt64 (4841369599423283200 : UInt64)) (4841369599423283200 : UInt64) = FP.l2d (Int64.ofInt (FP.Core.nearest c (2 ^ k))) := by
  obtain ⟨h1, h2⟩ := near_add hw hk1 hk2 hc
  refine ⟨jnn_iff.mpr (by rw [h1]; exact FP.Core.roundRatio_ne_nan _ _ _ _ _), ?_⟩
  have hN : (Int64.ofInt (FP.Core.nearest c (2 ^ k))).toInt = (FP.Core.nearest c (2 ^ k) : Int) := l_of (by omega) (by omega)
  generalize FP.Core.nearest c (2 ^ k) = N at *
  have hM : (Int64.ofInt ((4503599627370496 + N : Nat) : Int)).toInt = ((4503599627370496 + N : Nat) : Int) := l_of (by omega) (by omega)
  have hs : FP.dadd w.toUInt64 (4841369599423283200 : UInt64) = FP.l2d (Int64.ofInt ((4503599627370496 + N : Nat) : Int)) := by
    refine FP.Core.val64_inj (by rw [h1]; exact FP.Core.roundRatio_ne_nan _ _ _ _ _) ?_
    rw [h1, val_l2d, hM, decide_eq_false (by omega)]; rfl
  rw [hs]
  have d1 : FP.Core.DInt ((4503599627370496 + N : Nat) : Int) (FP.l2d (Int64.ofInt ((4503599627370496 + N : Nat) : Int))) := by
    have := FP.Core.l2d_int (a := Int64.ofInt ((4503599627370496 + N : Nat) : Int)) (by rw [hM]; omega)
    rw [hM] at this
    exact this
  have d2 : FP.Core.DInt 4503599627370496 (4841369599423283200 : UInt64) := by
    rw [l2d_52]
    exact FP.Core.l2d_int (a := 4503599627370496) (by decide)
  by_cases h0 : N = 0
  · subst h0
    rw [show Int64.ofInt ((4503599627370496 + 0 : Nat) : Int) = 4503599627370496 from by decide, ← l2d_52]
    have hv52 : FP.Core.val64 (4841369599423283200 : UInt64) = .fin false 4503599627370496 0 := by decide +kernel
    have := FP.Core.dsub_self (a := (4841369599423283200 : UInt64)) hv52
    rw [show FP.dsub (4841369599423283200 : UInt64) (4841369599423283200 : UInt64) = FP.Core.dsub (4841369599423283200 : UInt64) (4841369599423283200 : UInt64) from rfl, this]
    decide +kernel
  · have d3 := FP.Core.dsub_int d1 d2 (by omega)
    have d4 : FP.Core.DInt (((4503599627370496 + N : Nat) : Int) - 4503599627370496) (FP.l2d (Int64.ofInt (N : Int))) := by
      have := FP.Core.l2d_int (a := Int64.ofInt (N : Int)) (by rw [hN]; omega)
      rw [hN] at this
      rw [show ((4503599627370496 + N : Nat) : Int) - 4503599627370496 = (N : Int) by omega]
      exact this
    exact FP.Core.dint_unique (by omega) d3 d4
theorem near_bits {x : Int64} {k : Nat} (hk : ((ub x / 4503599627370496 % 2048 : Nat) : Int) - 1075 = -(k : Int)) (hk1 : 1 ≤ k) (hk2 : k ≤ 52) : ub (f_X5_near x) = (dS x).toNat * 9223372036854775808 + (-(k : Int) + 1074).toNat * 4503599627370496 + FP.Core.nearest (4503599627370496 + ub x % 4503599627370496) (2 ^ k) * 2 ^ k := by
  obtain ⟨f1, f2, f3⟩ := frac_parts hk hk1 hk2
  have hP := power_int x
  have hx := ub_lt x
  have hpk : 2 ^ k ≤ 2 ^ 52 := Nat.pow_le_pow_right (by decide) hk2
  have hp0 := Nat.two_pow_pos k
  have hp2 : 2 ^ k = 2 * 2 ^ (k - 1) := FP.Core.two_pow_pred k hk1
  have hsh : (f_X5_power x).toInt = ((52 - k : Nat) : Int) := by rw [hP]; omega
  have hf := ub_shr (4503599627370495 : Int64) hsh (by omega)
  rw [show ub (4503599627370495 : Int64) = 4503599627370495 from by decide, frac_sh hk2] at hf
  unfold f_X5_near f_X5_near_83 f_X5_near_113 f_X5_near_118 f_X5_near_119
  simp only [jlet]
  rw [if_pos (by rw [i_lt, hP, show (52 : Int32).toInt = 52 from by decide]; omega), if_pos (by rw [i_le, hP, t_0]; omega)]
  generalize ((4503599627370495 : Int64).toUInt64 >>> ((f_X5_power x).toInt64.toUInt64 &&& Int64.toUInt64 63)).toInt64 = fr at *
  have hu : ub (fr + (1 : Int64)) = 2 ^ k := by rw [ub_add, hf, show ub (1 : Int64) = 1 from rfl]; omega
  have hh : ub (((fr + (1 : Int64)).toUInt64 >>> ((1 : Int32).toInt64.toUInt64 &&& Int64.toUInt64 63)).toInt64) = 2 ^ (k - 1) := by
    rw [ub_shr _ t_1sh (by decide), hu]; omega
  have hr : ub (x &&& fr) = ub x % 2 ^ k := by rw [ub_and, hf, Nat.and_two_pow_sub_one_eq_mod]
  have hml := Nat.mod_lt (ub x) hp0
  have hmask : ub (x &&& (fr ^^^ (-1 : Int64))) = ub x / 2 ^ k * 2 ^ k := by
    rw [ub_and, ub_nott, hf, show 18446744073709551615 - (2 ^ k - 1) = 18446744073709551616 - 2 ^ k by omega, n_hi _ _ hx (by omega)]
  have hdm := Nat.div_add_mod (ub x) (2 ^ k)
  rw [Nat.mul_comm] at hdm
  have hdc := Nat.div_add_mod (4503599627370496 + ub x % 4503599627370496) (2 ^ k)
  rw [f3, Nat.mul_comm] at hdc
  have hodd : (x &&& (fr + (1 : Int64))) = (0 : Int64) ↔ ub x / 2 ^ k % 2 = 0 := by
    rw [ub_inj, ub_and, hu, show ub (0 : Int64) = 0 from rfl]
    have h1 := n_field (ub x) 1 k
    rw [show (2 ^ 1 - 1) * 2 ^ k = 2 ^ k by omega] at h1
    rw [h1]
    constructor
    · intro z; rcases Nat.mul_eq_zero.mp z with q | q
      · exact q
      · omega
    · intro z; rw [show (2 : Nat) ^ 1 = 2 from rfl, z, Nat.zero_mul]
  -- the two quotients differ by an even number
  have hpar : ub x / 2 ^ k % 2 = (4503599627370496 + ub x % 4503599627370496) / 2 ^ k % 2 := by
    have hw : 2 ^ k * 2 ^ (52 - k) = 4503599627370496 := by rw [← Nat.pow_add, show k + (52 - k) = 52 by omega]
    have e1 : ub x = 2 ^ k * (2 ^ (52 - k) * (ub x / 4503599627370496)) + ub x % 4503599627370496 := by
      rw [← Nat.mul_assoc, hw]; exact (Nat.div_add_mod _ _).symm
    have e2 : 4503599627370496 + ub x % 4503599627370496 = 2 ^ k * 2 ^ (52 - k) + ub x % 4503599627370496 := by rw [hw]
    conv => lhs; lhs; lhs; rw [e1]
    conv => rhs; lhs; lhs; rw [e2]
    rw [Nat.mul_add_div hp0, Nat.mul_add_div hp0]
    by_cases c : k = 52
    · subst c
      simp only [Nat.sub_self, Nat.pow_zero, Nat.one_mul]
      have hq : ub x / 4503599627370496 % 2 = 1 := by omega
      omega
    · have : 2 ^ (52 - k) % 2 = 0 := by
        rw [show 52 - k = (52 - k - 1) + 1 by omega, Nat.pow_succ]; omega
      rw [Nat.add_mod, Nat.mul_mod, this, Nat.zero_mul, Nat.zero_mod, Nat.zero_add, Nat.mod_mod, Nat.add_mod (2 ^ (52 - k)), this, Nat.zero_add, Nat.mod_mod]
  have hsum : ∀ b : Int64, (ub b = 0 ∨ ub b = 2 ^ k) → ub ((x &&& (fr ^^^ (-1 : Int64))) + b) = ub x / 2 ^ k * 2 ^ k + ub b := by
    intro b hb
    have hm : mg x < 9223372036854775808 := Nat.mod_lt _ (by decide)
    rw [ub_add, hmask]
    refine Nat.mod_eq_of_lt ?_
    obtain ⟨hE, hT⟩ := dS_ub (x := x)
    have hsub := mg_sub (x := x)
    rcases hb with hb | hb <;> rw [hb] <;> cases hs : dS x <;> rw [hs] at hsub <;> simp only [Bool.toNat_true, Bool.toNat_false] at hsub <;> omega
  have c1 : (((fr + (1 : Int64)).toUInt64 >>> ((1 : Int32).toInt64.toUInt64 &&& Int64.toUInt64 63)).toInt64) < (x &&& fr) ↔ 2 ^ (k - 1) < ub x % 2 ^ k := by
    rw [ub_llt (by rw [hh]; omega) (by rw [hr]; omega), hh, hr]
  have c2 : (x &&& fr) = (((fr + (1 : Int64)).toUInt64 >>> ((1 : Int32).toInt64.toUInt64 &&& Int64.toUInt64 63)).toInt64) ↔ ub x % 2 ^ k = 2 ^ (k - 1) := by
    rw [ub_inj, hh, hr]
  have u1 := hsum (fr + 1) (.inr hu)
  rw [hu] at u1
  have u0 := hsum 0 (.inl rfl)
  rw [show ub (0 : Int64) = 0 from rfl] at u0
  rw [n_ne hk1, f3]
  generalize (4503599627370496 + ub x % 4503599627370496) / 2 ^ k = N at *
  generalize ub x / 2 ^ k = Q at *
  have eD : (N + 1) * 2 ^ k = N * 2 ^ k + 2 ^ k := by rw [Nat.add_mul, Nat.one_mul]
  by_cases d3 : Q % 2 = 0
  · rw [if_pos (hodd.mpr d3), if_pos trivial, if_pos (show N % 2 = 0 by omega)]
    by_cases d1 : 2 ^ (k - 1) < ub x % 2 ^ k
    · rw [if_pos (c1.mpr d1), if_pos d1, u1, eD]; omega
    · rw [if_neg (fun z => d1 (c1.mp z)), if_neg d1, ite_self, ite_self, u0]; omega
  · rw [if_neg (fun z => d3 (hodd.mp z)), if_neg (show ¬ ((1 : Int32) = 0) by decide), if_neg (show ¬ N % 2 = 0 by omega)]
    by_cases d1 : 2 ^ (k - 1) < ub x % 2 ^ k
    · rw [if_pos (c1.mpr d1), if_pos d1, u1, eD]; omega
    · rw [if_neg (fun z => d1 (c1.mp z)), if_neg d1]
      by_cases d2 : ub x % 2 ^ k = 2 ^ (k - 1)
      · rw [if_pos (c2.mpr d2), if_pos d2, u1, eD]; omega
      · rw [if_neg (fun z => d2 (c2.mp z)), if_neg d2, u0]; omega
theorem near_ok {x : Int64} (hx : vcan x) : f_X12_near x.toUInt64 = some (f_X5_near x).toUInt64 ∧ vcan (f_X5_near x) := by
  have hP := power_int x
  have t52 : (52 : Int32).toInt = 52 := by decide
  have hm : mg x < 9223372036854775808 := Nat.mod_lt _ (by decide)
  obtain ⟨hE, hT⟩ := dS_ub (x := x)
  have hsubx := mg_sub (x := x)
  unfold f_X12_near
  have two52' := two52
  rw [two52, ntwo52]
  have hdz := cg_ge (x := x) (y := 0)
  rw [← d0_u, kx_0] at hdz
  simp only [self_eq, cl_ge, cg_le, z_eq, kx_two52, kx_ntwo52, hdz]
  have big : 4841369599423283200 ≤ mg x → f_X5_near x = x := by
    intro h
    unfold f_X5_near
    simp only [jlet]
    rw [if_neg (by rw [i_lt, hP, t52]; omega)]
  have hk : kx x = if dS x then -(mg x : Int) else (mg x : Int) := rfl
  by_cases hn : nN x
  · rw [if_pos hn]
    by_cases c1 : 4841369599423283200 ≤ mg x
    · rw [big c1]
      refine ⟨?_, hx⟩
      cases hs : dS x
      · rw [if_pos ⟨hn, nN_two52, by rw [hk, hs]; simp; omega⟩]
      · rw [if_neg (by rw [hk, hs]; simp; intro _ _; omega), if_pos ⟨hn, nN_ntwo52, by rw [hk, hs]; simp; omega⟩]
    · rw [if_neg (by rintro ⟨-, -, z⟩; rw [hk] at z; revert z; cases dS x <;> simp <;> omega), if_neg (by rintro ⟨-, -, z⟩; rw [hk] at z; revert z; cases dS x <;> simp <;> omega)]
      have hlow : mg x < 4607182418800017408 → f_X5_near x = if 4602678819172646912 < mg x then (x &&& (-9223372036854775808 : Int64)) ||| 4607182418800017408 else x &&& (-9223372036854775808 : Int64) := by
        intro h
        unfold f_X5_near
        simp only [jlet]
        rw [if_pos (by rw [i_lt, hP, t52]; omega), if_neg (by rw [i_le, hP, t_0]; omega)]
        have hc : (x &&& (9223372036854775807 : Int64)) ≤ (4602678819172646912 : Int64) ↔ mg x ≤ 4602678819172646912 := by
          rw [ub_lle (by rw [ub_mag]; omega) (by decide), ub_mag, show ub (4602678819172646912 : Int64) = 4602678819172646912 from by decide]; rfl
        by_cases c : mg x ≤ 4602678819172646912
        · rw [if_pos (hc.mpr c), if_neg (by omega)]
        · rw [if_neg (fun z => c (hc.mp z)), if_pos (by omega)]
      by_cases c2 : mg x = 0
      · rw [if_pos c2]
        have : f_X5_near x = x := by
          rw [hlow (by omega), if_neg (by omega), ub_inj, ub_sg, hsubx, c2]; omega
        rw [this]; exact ⟨rfl, hx⟩
      · rw [if_neg c2]
        -- the result, out of the whole number
        obtain ⟨c, k, hck, hk1, hk2, hclt⟩ : ∃ (c k : Nat), dv x = .fin (dS x) c (-(k : Int)) ∧ 1 ≤ k ∧ k ≤ 1074 ∧ c < 4503599627370496 * 2 ^ k := by
          by_cases c5 : ub x / 4503599627370496 % 2048 = 0
          · refine ⟨ub x % 4503599627370496, 1074, by rw [dv_eq, if_neg (by omega), if_pos c5]; rfl, by decide, by decide, ?_⟩
            have := Nat.mul_le_mul_left 4503599627370496 (Nat.two_pow_pos 1074)
            omega
          · obtain ⟨k, hkk⟩ : ∃ k : Nat, ((ub x / 4503599627370496 % 2048 : Nat) : Int) - 1075 = -(k : Int) := ⟨(1075 - (ub x / 4503599627370496 % 2048 : Nat)), by omega⟩
            refine ⟨4503599627370496 + ub x % 4503599627370496, k, by rw [dv_eq, if_neg (by omega), if_neg c5, hkk], by omega, by omega, ?_⟩
            have h1 : 2 ^ 1 ≤ 2 ^ k := Nat.pow_le_pow_right (by decide) (by omega)
            have := Nat.mul_le_mul_left 4503599627370496 h1
            omega
        have hres : (FP.Core.nearest c (2 ^ k) = 0 ∧ f_X5_near x = x &&& (-9223372036854775808 : Int64)) ∨ (1 ≤ FP.Core.nearest c (2 ^ k) ∧ dv (f_X5_near x) = FP.Core.roundRatio FP.Core.b64 (dS x) (FP.Core.nearest c (2 ^ k)) 1 0) := by
          by_cases c3 : mg x < 4607182418800017408
          · rw [hlow c3]
            by_cases c4 : 4602678819172646912 < mg x
            · rw [if_pos c4]
              right
              have hv : dv x = .fin (dS x) (4503599627370496 + ub x % 4503599627370496) (-53) := by
                rw [dv_eq, if_neg (by omega), if_neg (by omega), show ub x / 4503599627370496 % 2048 = 1022 by omega]; rfl
              rw [hck] at hv
              injection hv with _ hc' hk'
              have hk53 : k = 53 := by omega
              have hne : FP.Core.nearest c (2 ^ k) = 1 := by
                rw [hk53, hc']
                unfold FP.Core.nearest
                rw [Nat.mod_eq_of_lt (by omega), Nat.div_eq_of_lt (by omega), if_neg (by omega), if_pos (by omega)]
              rw [hne]
              refine ⟨by decide, ?_⟩
              have hu : ub ((x &&& (-9223372036854775808 : Int64)) ||| 4607182418800017408) = (dS x).toNat * 9223372036854775808 + ((-52 : Int) + 1074).toNat * 4503599627370496 + 4503599627370496 := by
                rw [ub_or_sgn (sg_ub (ub_sg x)) (by decide), ub_sg, show ub (4607182418800017408 : Int64) = 4607182418800017408 from by decide]; omega
              rw [bits_rr hu (by decide) (by decide) (by decide) (by decide)]
              exact rr_int (N := 1) (k := 52)
            · rw [if_neg c4]
              left
              refine ⟨?_, rfl⟩
              have hlt : 2 * c ≤ 2 ^ k ∧ c < 2 ^ k := by
                by_cases c5 : ub x / 4503599627370496 % 2048 = 0
                · have hv : dv x = .fin (dS x) (ub x % 4503599627370496) (-1074) := by rw [dv_eq, if_neg (by omega), if_pos c5]
                  rw [hck] at hv
                  injection hv with _ hc' hk'
                  have h1 : 2 ^ 54 ≤ 2 ^ k := Nat.pow_le_pow_right (by decide) (by omega)
                  omega
                · have hv : dv x = .fin (dS x) (4503599627370496 + ub x % 4503599627370496) ((ub x / 4503599627370496 % 2048 : Nat) - 1075) := by rw [dv_eq, if_neg (by omega), if_neg c5]
                  rw [hck] at hv
                  injection hv with _ hc' hk'
                  by_cases c6 : ub x / 4503599627370496 % 2048 = 1022
                  · have h1 : 2 ^ 53 ≤ 2 ^ k := Nat.pow_le_pow_right (by decide) (by omega)
                    omega
                  · have h1 : 2 ^ 54 ≤ 2 ^ k := Nat.pow_le_pow_right (by decide) (by omega)
                    omega
              unfold FP.Core.nearest
              rw [Nat.mod_eq_of_lt hlt.2, Nat.div_eq_of_lt hlt.2]
              split
              · rfl
              · rw [if_neg (by omega)]
          · right
            obtain ⟨k', hkk⟩ : ∃ k : Nat, ((ub x / 4503599627370496 % 2048 : Nat) : Int) - 1075 = -(k : Int) := ⟨(1075 - (ub x / 4503599627370496 % 2048 : Nat)), by omega⟩
            obtain ⟨f1, f2, f3⟩ := frac_parts hkk (by omega) (by omega)
            rw [hck] at f1
            injection f1 with _ hc' hk'
            have hke : k = k' := by omega
            subst hke
            have hb := near_bits hkk (by omega) (by omega)
            rw [← hc'] at hb
            have hp0 := Nat.two_pow_pos k
            have hw : 2 ^ k * 2 ^ (52 - k) = 4503599627370496 := by rw [← Nat.pow_add, show k + (52 - k) = 52 by omega]
            have g1 : 2 ^ (52 - k) ≤ FP.Core.nearest c (2 ^ k) := FP.Core.nearest_ge hp0 (by rw [Nat.mul_comm, hw]; omega)
            have g2 : FP.Core.nearest c (2 ^ k) ≤ 2 * 2 ^ (52 - k) := FP.Core.nearest_le hp0 (by rw [Nat.mul_assoc, Nat.mul_comm (2 ^ (52 - k)), hw]; omega)
            have g3 := Nat.mul_le_mul_right (2 ^ k) g1
            have g4 := Nat.mul_le_mul_right (2 ^ k) g2
            rw [Nat.mul_comm (2 ^ (52 - k)), hw] at g3
            rw [Nat.mul_assoc, Nat.mul_comm (2 ^ (52 - k)), hw] at g4
            have g5 := Nat.two_pow_pos (52 - k)
            refine ⟨by omega, ?_⟩
            rw [bits_rr hb g3 (by omega) (by omega) (by omega), rr_int]
        have h42 : ∀ w : Int64, dv w = .fin false c (-(k : Int)) → f_X12_near_42 x.toUInt64 w.toUInt64 = some (f_X5_near x).toUInt64 := by
          intro w hw
          obtain ⟨n1, n2⟩ := near_whole hw hk1 hk2 hclt
          obtain ⟨-, n3⟩ := near_add hw hk1 hk2 hclt
          have hN : (Int64.ofInt (FP.Core.nearest c (2 ^ k))).toInt = (FP.Core.nearest c (2 ^ k) : Int) := l_of (by omega) (by omega)
          unfold f_X12_near_42
          rw [if_pos n1, n2]
          have hv := val_l2d (Int64.ofInt (FP.Core.nearest c (2 ^ k)))
          rw [hN, decide_eq_false (by omega), Int.natAbs_natCast] at hv
          rw [if_pos (jnn_iff.mpr (by rw [hv]; exact FP.Core.roundRatio_ne_nan _ _ _ _ _))]
          simp only [jlet, hdz]
          rcases hres with ⟨r1, r2⟩ | ⟨r1, r2⟩
          · rw [r1] at hv ⊢
            rw [r2, show FP.l2d (Int64.ofInt ((0 : Nat) : Int)) = (0 : Int64).toUInt64 from by decide +kernel]
            cases hs : dS x
            · rw [if_pos (by rintro ⟨-, -, z⟩; rw [hk, hs] at z; simp at z; omega)]
              congr 2
              rw [ub_inj, ub_sg, hs]; decide
            · rw [if_neg (by rw [Decidable.not_not]; refine ⟨hn, nN_0, ?_⟩; rw [hk, hs]; simp; omega), dneg_u]
              congr 2
              rw [ub_inj, ub_sg, hs]; decide
          · have hnn : dv (f_X5_near x) ≠ .nan := by rw [r2]; exact FP.Core.roundRatio_ne_nan _ _ _ _ _
            cases hs : dS x
            · rw [if_pos (by rintro ⟨-, -, z⟩; rw [hk, hs] at z; simp at z; omega)]
              rw [hs] at r2
              congr 1
              exact dv_inj (by rw [hv, r2]) hnn
            · rw [if_neg (by rw [Decidable.not_not]; refine ⟨hn, nN_0, ?_⟩; rw [hk, hs]; simp; omega)]
              rw [hs] at r2
              congr 1
              refine dv_inj ?_ hnn
              rw [FP.val64_dneg, hv, r2, FP.Core.negate_roundRatio]; rfl
        have hcan : vcan (f_X5_near x) := by
          rcases hres with ⟨r1, r2⟩ | ⟨r1, r2⟩
          · rw [r2]
            exact can_of (.inr (by rw [dv_zero_of (ub_sg x)]; exact FP.Core.Datum.noConfusion))
          · exact can_of (.inr (by rw [r2]; exact FP.Core.roundRatio_ne_nan _ _ _ _ _))
        refine ⟨?_, hcan⟩
        cases hs : dS x
        · rw [if_pos (by rintro ⟨-, -, z⟩; rw [hk, hs] at z; simp at z; omega)]
          rw [hs] at hck
          exact h42 x hck
        · rw [if_neg (by rw [Decidable.not_not]; refine ⟨hn, nN_0, ?_⟩; rw [hk, hs]; simp; omega), dneg_u]
          refine h42 _ ?_
          have : dv (x ^^^ (-9223372036854775808 : Int64)) = FP.Core.negate (dv x) := by
            show FP.Core.val64 (x ^^^ (-9223372036854775808 : Int64)).toUInt64 = _
            rw [← dneg_u, FP.val64_dneg]; rfl
          rw [this, hck, hs]; rfl
  · rw [if_neg hn]
    have hb := big (by unfold nN at hn; omega)
    rw [hb]; exact ⟨rfl, hx⟩

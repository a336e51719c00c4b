/-! PURE: product, quotient, remainder of doubles -/
theorem n_mul_lt {a b A B : Nat} (h1 : a < A) (h2 : b < B) : a * b < A * B := Nat.mul_lt_mul'' h1 h2
theorem t_26 : (26 : Int32).toInt = (26 : Nat) := by decide
theorem t_8 : (8 : Int32).toInt = (8 : Nat) := by decide
theorem t_44 : (44 : Int32).toInt = (44 : Nat) := by decide
theorem n_split (a b : Nat) : a * b = a / 67108864 * (b / 67108864) * 4503599627370496 + (a / 67108864 * (b % 67108864) + a % 67108864 * (b / 67108864)) * 67108864 + a % 67108864 * (b % 67108864) := by
  have h1 := Nat.div_add_mod a 67108864
  have h2 := Nat.div_add_mod b 67108864
  generalize a / 67108864 = a1 at *
  generalize a % 67108864 = a0 at *
  generalize b / 67108864 = b1 at *
  generalize b % 67108864 = b0 at *
  subst h1 h2
  rw [Nat.add_mul, Nat.mul_add, Nat.mul_add]
  have e1 : 67108864 * a1 * (67108864 * b1) = a1 * b1 * 4503599627370496 := by
    rw [Nat.mul_mul_mul_comm]; omega
  have e2 : 67108864 * a1 * b0 = a1 * b0 * 67108864 := by rw [Nat.mul_assoc, Nat.mul_comm]
  have e3 : a0 * (67108864 * b1) = a0 * b1 * 67108864 := by rw [Nat.mul_left_comm, Nat.mul_comm]
  rw [e1, e2, e3, Nat.add_mul]
  omega
theorem times_gen {x y : Int64} (hx0 : mg x ≠ 0) (hy0 : mg y ≠ 0) (hx : mg x < 9218868437227405312) (hy : mg y < 9218868437227405312) : ∃ r, f_X5_times_95 x y ((x ^^^ y) &&& (-9223372036854775808 : Int64)) 0 0 = some r ∧ dv r ≠ .nan ∧ dv r = FP.Core.round FP.Core.b64 (FP.Core.exactProduct (dv x) (dv y)) := by
  obtain ⟨ma, ea, ca, qa, a1, a2, a3, a4, a5, a6, a7, a8, a9, a10, a11, a12⟩ := mant_ok hx0 hx
  obtain ⟨mb, eb, cb, qb, b1, b2, b3, b4, b5, b6, b7, b8, b9, b10, b11, b12⟩ := mant_ok hy0 hy
  have hpr : FP.Core.round FP.Core.b64 (FP.Core.exactProduct (dv x) (dv y)) = FP.Core.roundRatio FP.Core.b64 (dS x != dS y) (ub ma * ub mb) (2 ^ 44) (ea.toInt + eb.toInt + 44) := by
    rw [a7, b7]
    show FP.Core.roundRatio FP.Core.b64 (dS x != dS y) (ca * cb) 1 (qa + qb) = _
    refine FP.Core.roundRatio_congr Nat.one_pos (by decide) ?_
    have e1 : ∀ A B : Nat, ca * cb * 2 ^ A * 2 ^ B = ca * cb * 2 ^ (A + B) := fun A B => by rw [Nat.pow_add]; ac_rfl
    have e2 : ∀ A B E : Nat, ca * 2 ^ A * (cb * 2 ^ B) * 2 ^ E = ca * cb * 2 ^ (A + B + E) := fun A B E => by rw [Nat.pow_add, Nat.pow_add]; ac_rfl
    rw [a10, b10, Nat.mul_one, e1, e2]
    congr 2
    omega
  rw [hpr]
  unfold f_X5_times_95
  rw [if_pos rfl, if_pos rfl]
  simp only [a1, b1, Option.bind_some, jlet]
  have msk : ∀ z : Int64, ub (z &&& (67108863 : Int64)) = ub z % 67108864 := fun z => by
    rw [ub_and, show ub (67108863 : Int64) = 2 ^ 26 - 1 from by decide, Nat.and_two_pow_sub_one_eq_mod]
  have hi : ∀ z : Int64, ub ((z.toUInt64 >>> ((26 : Int32).toInt64.toUInt64 &&& Int64.toUInt64 63)).toInt64) = ub z / 67108864 := fun z => ub_shr z t_26 (by decide)
  have hs := n_split (ub ma) (ub mb)
  have p00 : ub ma % 67108864 * (ub mb % 67108864) < 67108864 * 67108864 := n_mul_lt (Nat.mod_lt _ (by decide)) (Nat.mod_lt _ (by decide))
  have p10 : ub ma / 67108864 * (ub mb % 67108864) < 134217728 * 67108864 := n_mul_lt (by omega) (Nat.mod_lt _ (by decide))
  have p01 : ub ma % 67108864 * (ub mb / 67108864) < 67108864 * 134217728 := n_mul_lt (Nat.mod_lt _ (by decide)) (by omega)
  have p11 : ub ma / 67108864 * (ub mb / 67108864) < 134217728 * 134217728 := n_mul_lt (by omega) (by omega)
  have plo : 4503599627370496 * 4503599627370496 ≤ ub ma * ub mb := Nat.mul_le_mul a3 b3
  have phi : ub ma * ub mb < 9007199254740992 * 9007199254740992 := n_mul_lt a4 b4
  have w0 : ub ((ma &&& (67108863 : Int64)) * (mb &&& (67108863 : Int64))) = ub ma % 67108864 * (ub mb % 67108864) := by
    rw [ub_mul, msk, msk]; omega
  have w10 : ub (((ma.toUInt64 >>> ((26 : Int32).toInt64.toUInt64 &&& Int64.toUInt64 63)).toInt64) * (mb &&& (67108863 : Int64))) = ub ma / 67108864 * (ub mb % 67108864) := by
    rw [ub_mul, hi, msk]; omega
  have w01 : ub ((ma &&& (67108863 : Int64)) * ((mb.toUInt64 >>> ((26 : Int32).toInt64.toUInt64 &&& Int64.toUInt64 63)).toInt64)) = ub ma % 67108864 * (ub mb / 67108864) := by
    rw [ub_mul, hi, msk]; omega
  have w11 : ub (((ma.toUInt64 >>> ((26 : Int32).toInt64.toUInt64 &&& Int64.toUInt64 63)).toInt64) * ((mb.toUInt64 >>> ((26 : Int32).toInt64.toUInt64 &&& Int64.toUInt64 63)).toInt64)) = ub ma / 67108864 * (ub mb / 67108864) := by
    rw [ub_mul, hi, hi]; omega
  generalize (ma &&& (67108863 : Int64)) * (mb &&& (67108863 : Int64)) = z0 at *
  generalize ((ma.toUInt64 >>> ((26 : Int32).toInt64.toUInt64 &&& Int64.toUInt64 63)).toInt64) * (mb &&& (67108863 : Int64)) = z10 at *
  generalize (ma &&& (67108863 : Int64)) * ((mb.toUInt64 >>> ((26 : Int32).toInt64.toUInt64 &&& Int64.toUInt64 63)).toInt64) = z01 at *
  generalize ((ma.toUInt64 >>> ((26 : Int32).toInt64.toUInt64 &&& Int64.toUInt64 63)).toInt64) * ((mb.toUInt64 >>> ((26 : Int32).toInt64.toUInt64 &&& Int64.toUInt64 63)).toInt64) = z11 at *
  generalize ub ma % 67108864 * (ub mb % 67108864) = P00 at *
  generalize ub ma / 67108864 * (ub mb % 67108864) = P10 at *
  generalize ub ma % 67108864 * (ub mb / 67108864) = P01 at *
  generalize ub ma / 67108864 * (ub mb / 67108864) = P11 at *
  generalize hP : ub ma * ub mb = P at *
  have wm : ub ((z10 + z01) + ((z0.toUInt64 >>> ((26 : Int32).toInt64.toUInt64 &&& Int64.toUInt64 63)).toInt64)) = P10 + P01 + P00 / 67108864 := by
    rw [ub_add, ub_add, hi, w10, w01, w0]; omega
  generalize (z10 + z01) + ((z0.toUInt64 >>> ((26 : Int32).toInt64.toUInt64 &&& Int64.toUInt64 63)).toInt64) = zm at *
  have wh : ub (z11 + ((zm.toUInt64 >>> ((26 : Int32).toInt64.toUInt64 &&& Int64.toUInt64 63)).toInt64)) = P11 + (P10 + P01 + P00 / 67108864) / 67108864 := by
    rw [ub_add, hi, w11, wm]; omega
  generalize z11 + ((zm.toUInt64 >>> ((26 : Int32).toInt64.toUInt64 &&& Int64.toUInt64 63)).toInt64) = zh at *
  have wl : ub (((zm &&& (67108863 : Int64)) <<< ((26 : Int32).toInt64 &&& 63)) ||| (z0 &&& (67108863 : Int64))) = (P10 + P01 + P00 / 67108864) % 67108864 * 67108864 + P00 % 67108864 := by
    rw [ub_or, ub_shl _ t_26 (by decide), msk, msk, wm, w0]
    have : (P10 + P01 + P00 / 67108864) % 67108864 * 2 ^ 26 % 18446744073709551616 = 2 ^ 26 * ((P10 + P01 + P00 / 67108864) % 67108864) := by omega
    rw [this, n_or_top (Nat.mod_lt _ (by decide))]; omega
  generalize ((zm &&& (67108863 : Int64)) <<< ((26 : Int32).toInt64 &&& 63)) ||| (z0 &&& (67108863 : Int64)) = zl at *
  have wx : ub (zl &&& (17592186044415 : Int64)) = P % 2 ^ 44 := by
    rw [ub_and, show ub (17592186044415 : Int64) = 2 ^ 44 - 1 from by decide, Nat.and_two_pow_sub_one_eq_mod, wl]; omega
  have wp : ub ((zh <<< ((8 : Int32).toInt64 &&& 63)) ||| ((zl.toUInt64 >>> ((44 : Int32).toInt64.toUInt64 &&& Int64.toUInt64 63)).toInt64)) = P / 2 ^ 44 := by
    rw [ub_or, ub_shl _ t_8 (by decide), ub_shr _ t_44 (by decide), wh, wl]
    have : (P11 + (P10 + P01 + P00 / 67108864) / 67108864) * 2 ^ 8 % 18446744073709551616 = 2 ^ 8 * (P11 + (P10 + P01 + P00 / 67108864) / 67108864) := by omega
    rw [this, n_or_top (by omega)]; omega
  have hgo : ∀ (t1 : Int32) (w : Nat), ub t1.toInt64 = w → (w = if P % 2 ^ 44 = 0 then 0 else 1) → ∃ r, f_X5_times_249 x y ((x ^^^ y) &&& (-9223372036854775808 : Int64)) ((zh <<< ((8 : Int32).toInt64 &&& 63)) ||| ((zl.toUInt64 >>> ((44 : Int32).toInt64.toUInt64 &&& Int64.toUInt64 63)).toInt64)) t1 = some r ∧ dv r ≠ .nan ∧ dv r = FP.Core.roundRatio FP.Core.b64 (dS x != dS y) P (2 ^ 44) (ea.toInt + eb.toInt + 44) := by
    intro t1 w hw hw2
    unfold f_X5_times_249
    simp only [jlet, a2, b2, Option.bind_some]
    have hm : ub (((zh <<< ((8 : Int32).toInt64 &&& 63)) ||| ((zl.toUInt64 >>> ((44 : Int32).toInt64.toUInt64 &&& Int64.toUInt64 63)).toInt64)) ||| t1.toInt64) = P / 2 ^ 44 ||| w := by rw [ub_or, wp, hw]
    have hst := n_sticky (X := P) (D := 2 ^ 44) (by decide) (P / 2 ^ 44 ||| w) (by rw [hw2])
    have e44 : (44 : Int32).toInt = 44 := by decide
    have hE : ((ea + eb) + (44 : Int32)).toInt = ea.toInt + eb.toInt + 44 := by
      rw [i_add (by rw [i_add (by omega) (by omega), e44]; omega) (by rw [i_add (by omega) (by omega), e44]; omega), i_add (by omega) (by omega), e44]
    obtain ⟨r, g1, g2⟩ := rounded_ok (ub_sx x y) hm (by omega) (by omega) hE (by omega)
    refine ⟨r, by rw [g1]; rfl, by rw [g2]; exact FP.Core.roundRatio_ne_nan _ _ _ _ _, ?_⟩
    rw [g2]
    refine (st_round (by decide) ?_).symm
    rcases hst with h | ⟨-, h2, h3, h4⟩
    · exact .inl h
    · exact .inr ⟨by omega, h2, h3, h4⟩
  have hz : (zl &&& (17592186044415 : Int64)) = (0 : Int64) ↔ P % 2 ^ 44 = 0 := by rw [ub_inj, wx]; exact Iff.rfl
  by_cases d : P % 2 ^ 44 = 0
  · rw [if_pos (hz.mpr d)]; exact hgo 0 0 (by decide) (by rw [if_pos d])
  · rw [if_neg (fun z => d (hz.mp z))]; exact hgo 1 1 (by decide) (by rw [if_neg d])
theorem dv_inf_of {r : Int64} {s : Bool} (h : ub r = s.toNat * 9223372036854775808 + 9218868437227405312) : dv r = .inf s := by
  have h1 : mg r = 9218868437227405312 := by unfold mg; rw [h]; cases s <;> decide
  rw [dv_inf h1]
  unfold dS
  rw [h]
  cases s <;> decide
theorem dv_zero_of {r : Int64} {s : Bool} (h : ub r = s.toNat * 9223372036854775808) : dv r = .fin s 0 (-1074) := by
  have h1 : mg r = 0 := by unfold mg; rw [h]; cases s <;> decide
  rw [dv_zero h1]
  unfold dS
  rw [h]
  cases s <;> decide
theorem ub_infc : ub (9218868437227405312 : Int64) = 9218868437227405312 := by decide
theorem times_ok (x y : Int64) : ∃ r, f_X5_times x y = some r ∧ (r = 9221120237041090560 ∨ dv r ≠ .nan) ∧ dv r = FP.Core.round FP.Core.b64 (FP.Core.exactProduct (dv x) (dv y)) := by
  have key : f_X5_times x y = f_X5_times_65 x y ((x ^^^ y) &&& (-9223372036854775808 : Int64)) (if mg x = 0 ∨ mg y = 0 then 1 else 0) (if mg x = 9218868437227405312 ∨ mg y = 9218868437227405312 then 1 else 0) := by
    unfold f_X5_times f_X5_times_29 f_X5_times_34 f_X5_times_60
    simp only [jlet, mag_0, mag_i]
    by_cases c1 : mg x = 0 <;> by_cases c2 : mg y = 0 <;> by_cases c3 : mg x = 9218868437227405312 <;> by_cases c4 : mg y = 9218868437227405312 <;> simp only [c1, c2, c3, c4, show ((0 : Nat) = 9218868437227405312) = False from by decide, show ((9218868437227405312 : Nat) = 0) = False from by decide, if_true, if_false, or_true, true_or, or_false, false_or, or_self]
  rw [key]
  unfold f_X5_times_65
  rw [isNot_ok, isNot_ok]
  have nan_case : (mg x ≤ 9218868437227405312 → mg y ≤ 9218868437227405312 → (mg x = 0 ∨ mg y = 0) ∧ (mg x = 9218868437227405312 ∨ mg y = 9218868437227405312)) → ∃ r, some (9221120237041090560 : Int64) = some r ∧ (r = 9221120237041090560 ∨ dv r ≠ .nan) ∧ dv r = FP.Core.round FP.Core.b64 (FP.Core.exactProduct (dv x) (dv y)) := by
    intro h
    refine ⟨_, rfl, .inl rfl, ?_⟩
    rw [dv_nn]
    symm
    rw [FP.Core.round_nan, FP.Core.exactProduct_nan]
    by_cases hx : mg x ≤ 9218868437227405312
    · by_cases hy : mg y ≤ 9218868437227405312
      · obtain ⟨h1, h2⟩ := h hx hy
        rcases h1 with h1 | h1 <;> rcases h2 with h2 | h2
        · omega
        · exact .inr (.inr (.inr ⟨_, _, _, dv_zero h1, dv_inf h2⟩))
        · exact .inr (.inr (.inl ⟨_, _, _, dv_inf h2, dv_zero h1⟩))
        · omega
      · exact .inr (.inl ((dv_nan y).mpr (by omega)))
    · exact .inl ((dv_nan x).mpr (by omega))
  by_cases hx : mg x ≤ 9218868437227405312
  · by_cases hy : mg y ≤ 9218868437227405312
    · rw [if_pos hx, if_pos hy, if_pos rfl, if_pos rfl]
      by_cases hz : mg x = 0 ∨ mg y = 0
      · rw [if_pos hz, if_neg (by decide)]
        by_cases hi : mg x = 9218868437227405312 ∨ mg y = 9218868437227405312
        · rw [if_pos hi, if_neg (by decide)]
          exact nan_case (fun _ _ => ⟨hz, hi⟩)
        · rw [if_neg hi, if_pos rfl]
          unfold f_X5_times_95 f_X5_times_105
          rw [if_neg (by decide), if_neg (by decide)]
          refine ⟨_, rfl, .inr ?_, ?_⟩
          · rw [dv_zero_of (ub_sx x y)]; exact FP.Core.Datum.noConfusion
          · rw [dv_zero_of (ub_sx x y)]
            obtain ⟨c, q, h, h0, -⟩ := dv_fin (x := x) (by omega)
            obtain ⟨c', q', h', h0', -⟩ := dv_fin (x := y) (by omega)
            rw [h, h']
            show _ = FP.Core.roundRatio FP.Core.b64 (dS x != dS y) (c * c') 1 (q + q')
            have : c * c' = 0 := by
              rcases hz with z | z
              · rw [h0.mpr z, Nat.zero_mul]
              · rw [h0'.mpr z, Nat.mul_zero]
            rw [this, rr_zero]
      · rw [if_neg hz, if_pos rfl]
        by_cases hi : mg x = 9218868437227405312 ∨ mg y = 9218868437227405312
        · rw [if_pos hi]
          unfold f_X5_times_95 f_X5_times_105
          rw [if_pos rfl, if_neg (by decide), if_pos rfl]
          have hr : ub (((x ^^^ y) &&& (-9223372036854775808 : Int64)) ||| (9218868437227405312 : Int64)) = (dS x != dS y).toNat * 9223372036854775808 + 9218868437227405312 := by
            rw [ub_or_sgn (sg_ub (ub_sx x y)) (by decide), ub_sx, ub_infc]
          refine ⟨_, rfl, .inr ?_, ?_⟩
          · rw [dv_inf_of hr]; exact FP.Core.Datum.noConfusion
          · rw [dv_inf_of hr]
            by_cases i1 : mg x = 9218868437227405312
            · rw [dv_inf i1]
              by_cases i2 : mg y = 9218868437227405312
              · rw [dv_inf i2]; rfl
              · obtain ⟨c', q', h', h0', -⟩ := dv_fin (x := y) (by omega)
                rw [h']
                show _ = FP.Core.round FP.Core.b64 (if c' = 0 then _ else _)
                rw [if_neg (by omega)]; rfl
            · have i2 : mg y = 9218868437227405312 := by omega
              obtain ⟨c', q', h', h0', -⟩ := dv_fin (x := x) (by omega)
              rw [h', dv_inf i2]
              show _ = FP.Core.round FP.Core.b64 (if c' = 0 then _ else _)
              rw [if_neg (by omega)]; rfl
        · rw [if_neg hi]
          obtain ⟨r, g1, g2, g3⟩ := times_gen (x := x) (y := y) (by omega) (by omega) (by omega) (by omega)
          exact ⟨r, g1, .inr g2, g3⟩
    · rw [if_pos hx, if_neg hy, if_pos rfl, if_neg (by decide)]
      exact nan_case (fun _ z => absurd z hy)
  · rw [if_neg hx, if_neg (by decide)]
    exact nan_case (fun z => absurd z hx)

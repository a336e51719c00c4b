/-! PURE: the remainder of doubles -/
theorem ub_div {a b : Int64} (ha : ub a < 9223372036854775808) (hb0 : 0 < ub b) (hb : ub b < 9223372036854775808) : ub (a / b) = ub a / ub b := by
  have h1 : (a / b).toInt = ((ub a / ub b : Nat) : Int) := by
    rw [Int64.toInt_div_of_ne_right a b (fun e => by rw [e] at hb; revert hb; decide), ub_pos ha, ub_pos hb, Int.ofNat_tdiv]
  have h2 := ub_of_nn (x := a / b) (by rw [h1]; exact Int.natCast_nonneg _)
  exact Int.ofNat_inj.mp (h2.trans h1)
theorem ub_rem {a b : Int64} (ha : ub a < 9223372036854775808) (hb0 : 0 < ub b) (hb : ub b < 9223372036854775808) : ub (a - a / b * b) = ub a % ub b := by
  have h := Nat.div_add_mod (ub a) (ub b)
  rw [Nat.mul_comm] at h
  rw [ub_sub, ub_mul, ub_div ha hb0 hb]
  generalize ub a / ub b * ub b = P at *
  omega
theorem mod_step (a b D : Nat) : a % D * b % D = a * b % D := by
  rw [Nat.mul_mod, Nat.mod_mod, ← Nat.mul_mod]
theorem rem_loop {x y dv0 : Int64} {ey : Int32} (hey : f_X5_exponent y = some ey) (hb : -1126 ≤ ey.toInt ∧ ey.toInt ≤ 971) {D : Nat} (hD : ub dv0 = D) (hD1 : 4503599627370496 ≤ D) (hD2 : D < 9007199254740992) : ∀ (k fuel : Nat) (rest : Int64) (left : Int32) (L : Nat), k < fuel → L ≤ 10 * k → left.toInt.toNat = L → -11 < left.toInt → ub rest < D →
    ∃ r, f_X5_remainder_93 fuel x y dv0 rest left = some r ∧ dv r = FP.Core.roundRatio FP.Core.b64 (dS x) (ub rest * 2 ^ L % D) 1 ey.toInt := by
  intro k
  induction k with
  | zero =>
    intro fuel rest left L hf hL hl hl2 hr
    obtain ⟨n, rfl⟩ : ∃ n, fuel = n + 1 := ⟨fuel - 1, by omega⟩
    have hL0 : L = 0 := by omega
    subst hL0
    unfold f_X5_remainder_93
    rw [if_pos (by rw [i_le, t_0]; omega), Nat.pow_zero, Nat.mul_one, Nat.mod_eq_of_lt hr]
    by_cases c : ub rest = 0
    · rw [if_pos (by rw [ub_inj, c]; decide), c, rr_zero]
      exact ⟨_, rfl, dv_zero_of (ub_sg x)⟩
    · rw [if_neg (by rw [ub_inj]; exact c), hey]
      obtain ⟨r, g1, g2⟩ := rounded_ok (ub_sg x) (rfl : ub rest = _) (by omega) (by omega) (rfl : ey.toInt = _) (by omega)
      exact ⟨r, by simp only [Option.bind_some, g1], g2⟩
  | succ k ih =>
    intro fuel rest left L hf hL hl hl2 hr
    obtain ⟨n, rfl⟩ : ∃ n, fuel = n + 1 := ⟨fuel - 1, by omega⟩
    by_cases c0 : left.toInt ≤ 0
    · exact ih (n + 1) rest left L (by omega) (by omega) hl hl2 hr
    · unfold f_X5_remainder_93
      have t10 : (10 : Int32).toInt = 10 := by decide
      rw [if_neg (by rw [i_le, t_0]; exact c0), if_pos (by rw [ub_inj, hD, show ub (0 : Int64) = 0 from rfl]; omega)]
      simp only [jlet]
      obtain ⟨j, hj, hj2, hj3, hj4⟩ : ∃ j : Nat, (if (10 : Int32) < left then (10 : Int32) else left).toInt = j ∧ j ≤ 10 ∧ j ≤ L ∧ (j = 10 ∨ j = L) := by
        by_cases c : (10 : Int32) < left
        · rw [if_pos c]
          rw [i_lt, t10] at c
          exact ⟨10, t10, by omega, by omega, .inl rfl⟩
        · rw [if_neg c]
          rw [i_lt, t10] at c
          exact ⟨L, by omega, by omega, by omega, .inr rfl⟩
      have o1 : k < n := Nat.lt_of_succ_lt_succ hf
      have o2 : L - j ≤ 10 * k := by clear hD1 hD2 hr; omega
      have o3 : (left.toInt - 10).toNat = L - j := by clear hD1 hD2 hr; omega
      have o4 : -11 < left.toInt - 10 := by clear hD1 hD2 hr; omega
      have hp : 2 ^ j ≤ 2 ^ 10 := Nat.pow_le_pow_right (by decide) (by omega)
      have hmul : ub rest * 2 ^ j ≤ 9007199254740991 * 2 ^ 10 := Nat.mul_le_mul (by omega) hp
      have hs : ub (rest <<< ((if (10 : Int32) < left then (10 : Int32) else left).toInt64 &&& 63)) = ub rest * 2 ^ j := by
        rw [ub_shl _ hj (by omega)]; omega
      have hm : ub ((rest <<< ((if (10 : Int32) < left then (10 : Int32) else left).toInt64 &&& 63)) - (rest <<< ((if (10 : Int32) < left then (10 : Int32) else left).toInt64 &&& 63)) / dv0 * dv0) = ub rest * 2 ^ j % D := by
        have hlt : ub (rest <<< ((if (10 : Int32) < left then (10 : Int32) else left).toInt64 &&& 63)) < 9223372036854775808 := by rw [hs]; exact Nat.lt_of_le_of_lt hmul (by decide)
        rw [ub_rem hlt (by rw [hD]; exact Nat.lt_of_lt_of_le (by decide) hD1) (by rw [hD]; omega), hs, hD]
      have hl3 : (left + (-10 : Int32)).toInt = left.toInt - 10 := by
        have tm : (-10 : Int32).toInt = -10 := by decide
        have := i_rng left
        rw [i_add (by rw [tm]; omega) (by rw [tm]; omega), tm]; omega
      obtain ⟨r, g1, g2⟩ := ih n _ (left + (-10 : Int32)) (L - j) o1 o2 (by rw [hl3]; exact o3) (by rw [hl3]; exact o4) (by rw [hm]; exact Nat.mod_lt _ (by omega))
      refine ⟨r, g1, ?_⟩
      rw [g2, hm, mod_step, Nat.mul_assoc, ← Nat.pow_add, Nat.add_sub_cancel' hj3]
theorem rem_ok (x y : Int64) : ∃ r, f_X5_remainder x y = some r ∧ (r = 9221120237041090560 ∨ dv r ≠ .nan) ∧ dv r = FP.Core.round FP.Core.b64 (FP.Core.exactRemainder (dv x) (dv y)) := by
  unfold f_X5_remainder
  rw [isNot_ok, isNot_ok]
  have nan_case : (mg x ≤ 9218868437227405312 → mg y ≤ 9218868437227405312 → mg x = 9218868437227405312 ∨ mg y = 0) → ∃ r, some (9221120237041090560 : Int64) = some r ∧ (r = 9221120237041090560 ∨ dv r ≠ .nan) ∧ dv r = FP.Core.round FP.Core.b64 (FP.Core.exactRemainder (dv x) (dv y)) := by
    intro h
    refine ⟨_, rfl, .inl rfl, ?_⟩
    rw [dv_nn]
    symm
    rw [FP.Core.round_nan, FP.Core.exactRemainder_nan]
    by_cases hx : mg x ≤ 9218868437227405312
    · by_cases hy : mg y ≤ 9218868437227405312
      · rcases h hx hy with h1 | h1
        · exact .inr (.inr (.inl ⟨_, dv_inf h1⟩))
        · exact .inr (.inr (.inr ⟨_, _, dv_zero h1⟩))
      · exact .inr (.inl ((dv_nan y).mpr (by omega)))
    · exact .inl ((dv_nan x).mpr (by omega))
  by_cases hx : mg x ≤ 9218868437227405312
  · by_cases hy : mg y ≤ 9218868437227405312
    · rw [if_pos hx, if_pos hy, if_pos rfl, if_pos rfl]
      by_cases c1 : mg x = 9218868437227405312
      · rw [if_pos (mag_i.mpr c1)]; exact nan_case (fun _ _ => .inl c1)
      · rw [if_neg (fun z => c1 (mag_i.mp z))]
        by_cases c2 : mg y = 0
        · rw [if_pos (mag_0.mpr c2)]; exact nan_case (fun _ _ => .inr c2)
        · rw [if_neg (fun z => c2 (mag_0.mp z))]
          obtain ⟨c, q, hxv, hx0, -⟩ := dv_fin (x := x) (by omega)
          by_cases c3 : mg y ≤ mg x
          · rw [if_pos (mag_le.mpr c3)]
            obtain ⟨ma, ea, ca, qa, a1, a2, a3, a4, a5, a6, a7, a8, a9, a10, a11, a12⟩ := mant_ok (x := x) (by omega) (by omega)
            obtain ⟨mb, eb, cb, qb, b1, b2, b3, b4, b5, b6, b7, b8, b9, b10, b11, b12⟩ := mant_ok (x := y) c2 (by omega)
            have hee := exp_le a4 b3 a10 b10 a9 b9 a5 b5 a11 b11 (by rw [mg_units a7, mg_units b7]; exact FP.Core.unitsOf_le_iff.mpr c3)
            have hmb0 : ¬ mb = 0 := by rw [ub_inj, show ub (0 : Int64) = 0 from rfl]; omega
            simp only [a1, a2, b1, b2, Option.bind_some, jlet, if_neg hmb0]
            rw [if_pos hmb0]
            have hm : ub (ma - ma / mb * mb) = ub ma % ub mb := ub_rem (by omega) (by omega) (by omega)
            have hg : (ea - eb).toInt = ea.toInt - eb.toInt := i_sub (by omega) (by omega)
            obtain ⟨r, g1, g2⟩ := rem_loop (x := x) b2 ⟨b5, b6⟩ (D := ub mb) rfl b3 b4 300 1100000 (ma - ma / mb * mb) (ea - eb) _ (by decide) (by rw [hg]; omega) rfl (by omega) (by rw [hm]; exact Nat.mod_lt _ (by omega))
            refine ⟨r, g1, .inr (by rw [g2]; exact FP.Core.roundRatio_ne_nan _ _ _ _ _), ?_⟩
            rw [g2, hm, mod_step, a7, b7]
            show _ = FP.Core.round FP.Core.b64 (if cb = 0 then _ else .fin (dS x) (ca * 2 ^ (qa - min qa qb).toNat % (cb * 2 ^ (qb - min qa qb).toNat)) (min qa qb))
            rw [if_neg b8]
            show _ = FP.Core.roundRatio FP.Core.b64 (dS x) (ca * 2 ^ (qa - min qa qb).toNat % (cb * 2 ^ (qb - min qa qb).toNat)) 1 (min qa qb)
            rw [rr_shift _ _ (min qa qb) (min qa qb - eb.toInt).toNat, ← Nat.mul_mod_mul_right]
            have e1 : ca * 2 ^ (qa - min qa qb).toNat * 2 ^ (min qa qb - eb.toInt).toNat = ub ma * 2 ^ (ea - eb).toInt.toNat := by
              rw [a10, Nat.mul_assoc, Nat.mul_assoc, ← Nat.pow_add, ← Nat.pow_add]; congr 2; omega
            have e2 : cb * 2 ^ (qb - min qa qb).toNat * 2 ^ (min qa qb - eb.toInt).toNat = ub mb := by
              rw [b10, Nat.mul_assoc, ← Nat.pow_add]; congr 2; omega
            rw [e1, e2, show min qa qb - ((min qa qb - eb.toInt).toNat : Int) = eb.toInt by omega]
          · rw [if_neg (fun z => c3 (mag_le.mp z))]
            refine ⟨x, rfl, .inr (by rw [hxv]; exact FP.Core.Datum.noConfusion), ?_⟩
            by_cases c4 : mg y = 9218868437227405312
            · rw [dv_inf c4]
              have : FP.Core.exactRemainder (dv x) (.inf (dS y)) = dv x := by rw [hxv]; rfl
              rw [this, FP.Core.round_of_fits FP.Core.good_b64 (dv_fits x)]
            · obtain ⟨d, t, hyv, hy0, -⟩ := dv_fin (x := y) (by omega)
              rw [hyv]
              conv => rhs; rw [hxv]
              show dv x = FP.Core.round FP.Core.b64 (if d = 0 then _ else .fin (dS x) (FP.Core.inUnits c q (min q t) % FP.Core.inUnits d t (min q t)) (min q t))
              rw [if_neg (by omega)]
              have hlt : FP.Core.inUnits c q (min q t) < FP.Core.inUnits d t (min q t) := by
                have h1 : c * 2 ^ (q + 1074).toNat < d * 2 ^ (t + 1074).toNat := by
                  rw [mg_units hxv, mg_units hyv]; exact FP.Core.unitsOf_lt_iff.mpr (by omega)
                obtain ⟨-, hq1, -, -⟩ := (hxv ▸ dv_fits x : FP.Core.fits FP.Core.b64 (.fin (dS x) c q))
                obtain ⟨-, ht1, -, -⟩ := (hyv ▸ dv_fits y : FP.Core.fits FP.Core.b64 (.fin (dS y) d t))
                rw [b_q] at hq1 ht1
                unfold FP.Core.inUnits
                refine Nat.lt_of_mul_lt_mul_right (a := 2 ^ (min q t + 1074).toNat) ?_
                rw [Nat.mul_assoc, Nat.mul_assoc, ← Nat.pow_add, ← Nat.pow_add, show (q - min q t).toNat + (min q t + 1074).toNat = (q + 1074).toNat by omega, show (t - min q t).toNat + (min q t + 1074).toNat = (t + 1074).toNat by omega]
                exact h1
              rw [Nat.mod_eq_of_lt hlt, FP.Core.round_inUnits _ _ (by omega), ← hxv, FP.Core.round_of_fits FP.Core.good_b64 (dv_fits x)]
    · rw [if_pos hx, if_neg hy, if_pos rfl, if_neg (by decide)]
      exact nan_case (fun _ z => absurd z hy)
  · rw [if_neg hx, if_neg (by decide)]
    exact nan_case (fun z => absurd z hx)
theorem nearest_ok (x : Int64) : ∃ r, f_X5_nearest x = some r ∧ dv r ≠ .nan ∧ dv r = FP.Core.val64 (FP.l2d x) := by
  rw [show FP.l2d x = FP.Core.l2d x from rfl, FP.Core.val64_l2d]
  unfold f_X5_nearest
  have main : ∀ {sg m : Int64} {s : Bool} {M : Nat}, ub sg = s.toNat * 9223372036854775808 → ub m = M → 0 < M → M < 9223372036854775808 → decide (x.toInt < 0) = s → x.toInt.natAbs = M → ∃ r, (f_X5_rounded sg (0 : Int32) m).bind (fun x4 => some x4) = some r ∧ dv r ≠ .nan ∧ dv r = FP.Core.round FP.Core.b64 (FP.Core.ofInt x.toInt) := by
    intro sg m s M h1 h2 h3 h4 h5 h6
    obtain ⟨r, g1, g2⟩ := rounded_ok (e := 0) h1 h2 h3 h4 t_0 (by decide)
    refine ⟨r, by rw [g1]; rfl, by rw [g2]; exact FP.Core.roundRatio_ne_nan _ _ _ _ _, ?_⟩
    rw [g2]
    show _ = FP.Core.roundRatio FP.Core.b64 (decide (x.toInt < 0)) x.toInt.natAbs 1 0
    rw [h5, h6]
  have hx := ub_lt x
  by_cases c1 : x = 0
  · rw [if_pos c1, c1]
    refine ⟨_, rfl, ?_, ?_⟩
    · rw [dv_z0]; exact FP.Core.Datum.noConfusion
    · rw [dv_z0]
      show _ = FP.Core.roundRatio FP.Core.b64 false 0 1 0
      rw [rr_zero]
  · rw [if_neg c1]
    have hu0 : ub x ≠ 0 := fun z => c1 (ub_inj.mpr z)
    by_cases c2 : x = -9223372036854775808
    · rw [if_pos c2, c2]
      refine ⟨_, rfl, ?_, ?_⟩
      · rw [Ne, dv_nan]; decide
      · decide +kernel
    · rw [if_neg c2]
      have hu1 : ub x ≠ 9223372036854775808 := fun z => c2 (ub_inj.mpr (by rw [z]; decide))
      by_cases c3 : (0 : Int64) ≤ x
      · rw [if_pos c3]
        have h := ub_nn.mp c3
        have := ub_pos h
        exact main (s := false) (by decide) rfl (by omega) h (decide_eq_false (by omega)) (by omega)
      · rw [if_neg c3]
        have h : ¬ ub x < 9223372036854775808 := fun z => c3 (ub_nn.mpr z)
        have ht := ub_toInt x
        rw [if_neg h] at ht
        exact main (s := true) (by decide) (ub_neg x) (by omega) (by omega) (decide_eq_true (by omega)) (by omega)

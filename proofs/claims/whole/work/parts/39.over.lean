/-! PURE: quotient and remainder of doubles -/
theorem over_loop {x y sg dv0 : Int64} {D N : Nat} (hD : ub dv0 = D) (hD1 : 4503599627370496 ≤ D) (hD2 : D < 9007199254740992) : ∀ (k fuel : Nat) (rest quo : Int64) (i : Int32) (t : Nat), k + t = 61 → i.toInt = t → k ≤ fuel → ub quo < 2 ^ t → ub rest < 2 * D → N * 2 ^ t = 2 * D * ub quo + ub rest →
    ∃ rest' quo' : Int64, f_X5_over_167 fuel x y sg rest dv0 quo i = f_X5_over_167 (fuel - k) x y sg rest' dv0 quo' 61 ∧ ub quo' < 2 ^ 61 ∧ ub rest' < 2 * D ∧ N * 2 ^ 61 = 2 * D * ub quo' + ub rest' := by
  intro k
  induction k with
  | zero =>
    intro fuel rest quo i t hkt hi hf hq hr hN
    have ht : t = 61 := by omega
    subst ht
    exact ⟨rest, quo, by rw [show i = 61 by rw [i_eq, hi]; rfl]; rfl, hq, hr, hN⟩
  | succ k ih =>
    intro fuel rest quo i t hkt hi hf hq hr hN
    obtain ⟨n, rfl⟩ : ∃ n, fuel = n + 1 := ⟨fuel - 1, by omega⟩
    have hp : 2 ^ t ≤ 2 ^ 60 := Nat.pow_le_pow_right (by decide) (by omega)
    have hps : 2 ^ (t + 1) = 2 * 2 ^ t := by rw [Nat.pow_succ]; omega
    rw [show n + 1 - (k + 1) = n - k by omega]
    rw [f_X5_over_167]
    unfold f_X5_over_201
    rw [if_neg (by rw [i_lt, hi, show (60 : Int32).toInt = 60 from rfl]; omega)]
    simp only [jlet]
    have q1 : ub (quo <<< ((1 : Int32).toInt64 &&& 63)) = ub quo * 2 := by rw [ub_shl _ t_1sh (by decide)]; omega
    have hi1 : (i + (1 : Int32)).toInt = ((t + 1 : Nat) : Int) := by rw [i_add1 (by omega), hi]; omega
    have hN2 : N * 2 ^ (t + 1) = 2 * (N * 2 ^ t) := by rw [hps, Nat.mul_left_comm]
    have hlt : rest < dv0 ↔ ub rest < D := by rw [ub_llt (by omega) (by omega), hD]
    by_cases c : ub rest < D
    · rw [if_pos (hlt.mpr c)]
      have r1 : ub (rest <<< ((1 : Int32).toInt64 &&& 63)) = ub rest * 2 := by rw [ub_shl _ t_1sh (by decide)]; omega
      refine ih n _ _ _ (t + 1) (by omega) hi1 (by omega) (by rw [q1]; omega) (by rw [r1]; omega) ?_
      rw [hN2, hN, q1, r1, Nat.mul_add, ← Nat.mul_assoc (2 * D), Nat.mul_comm 2 (2 * D * ub quo)]; omega
    · rw [if_neg (fun z => c (hlt.mp z))]
      have r0 : ub (rest - dv0) = ub rest - D := by rw [ub_sub, hD]; omega
      have r1 : ub ((rest - dv0) <<< ((1 : Int32).toInt64 &&& 63)) = (ub rest - D) * 2 := by rw [ub_shl _ t_1sh (by decide), r0]; omega
      have q2 : ub ((quo <<< ((1 : Int32).toInt64 &&& 63)) ||| (1 : Int64)) = ub quo * 2 + 1 := by
        rw [ub_or, q1, Nat.mul_comm, show ub (1 : Int64) = 1 from rfl]
        rw [show 2 * ub quo = 2 ^ 1 * ub quo from rfl, n_or_top (by decide)]
      refine ih n _ _ _ (t + 1) (by omega) hi1 (by omega) (by rw [q2]; omega) (by rw [r1]; omega) ?_
      rw [hN2, hN, q2, r1, Nat.mul_add (2 * D), ← Nat.mul_assoc (2 * D), Nat.mul_add 2, Nat.mul_comm 2 (2 * D * ub quo)]; omega
theorem half_eq (P Q r : Nat) (h : 2 * P = 2 * (Q) + r) : P = Q + r / 2 ∧ r % 2 = 0 := by omega
theorem q_lo {M B : Nat} (h1 : 4503599627370496 ≤ M) (h2 : B < 9007199254740992) (h3 : 0 < B) : 2 ^ 59 ≤ M * 2 ^ 60 / B := by
  refine (Nat.le_div_iff_mul_le h3).mpr ?_
  show 576460752303423488 * B ≤ M * 1152921504606846976
  omega
theorem over_loop61 {x y sg dv0 ma : Int64} {fuel : Nat} (hfu : 62 ≤ fuel) {D : Nat} (hD : ub dv0 = D) (hD1 : 4503599627370496 ≤ D) (hD2 : D < 9007199254740992) (hm : ub ma < 2 * D) : ∃ (rest' quo' : Int64) (n : Nat), f_X5_over_167 fuel x y sg ma dv0 0 0 = f_X5_over_167 (n + 1) x y sg rest' dv0 quo' 61 ∧ ub quo' < 2 ^ 61 ∧ ub rest' < 2 * D ∧ ub ma * 2 ^ 60 = D * ub quo' + ub rest' / 2 ∧ ub rest' % 2 = 0 := by
  obtain ⟨rest, quo, f1, f2, f3, f4⟩ := over_loop (x := x) (y := y) (sg := sg) (N := ub ma) hD hD1 hD2 61 fuel ma 0 0 0 rfl t_0 (by omega) (by decide) hm (by rw [show ub (0 : Int64) = 0 from rfl]; omega)
  have e : ∃ n, fuel - 61 = n + 1 := ⟨fuel - 62, by omega⟩
  obtain ⟨n, e⟩ := e
  rw [e] at f1
  have h61 : ub ma * 2 ^ 61 = 2 * (ub ma * 2 ^ 60) := by rw [show (2 : Nat) ^ 61 = 2 * 2 ^ 60 from by decide, Nat.mul_left_comm]
  rw [h61, Nat.mul_assoc] at f4
  exact ⟨rest, quo, n, f1, f2, f3, half_eq _ _ _ f4⟩
theorem over_gen {x y : Int64} {fuel : Nat} (hfu : 62 ≤ fuel) (hx0 : mg x ≠ 0) (hy0 : mg y ≠ 0) (hx : mg x < 9218868437227405312) (hy : mg y < 9218868437227405312) : ∃ ma mb r, f_X5_mantissa x = some ma ∧ f_X5_mantissa y = some mb ∧ f_X5_over_167 fuel x y ((x ^^^ y) &&& (-9223372036854775808 : Int64)) ma mb (0 : Int64) (0 : Int32) = some r ∧ dv r ≠ .nan ∧ dv r = FP.Core.quotient FP.Core.b64 (dv x) (dv y) := by
  obtain ⟨ma, ea, ca, qa, a1, a2, a3, a4, a5, a6, a7, a8, a9, a10, a11, a12⟩ := mant_ok hx0 hx
  obtain ⟨mb, eb, cb, qb, b1, b2, b3, b4, b5, b6, b7, b8, b9, b10, b11, b12⟩ := mant_ok hy0 hy
  have hpr : FP.Core.quotient FP.Core.b64 (dv x) (dv y) = FP.Core.roundRatio FP.Core.b64 (dS x != dS y) (ub ma * 2 ^ 60) (ub mb) (ea.toInt - eb.toInt - 60) := by
    rw [a7, b7]
    show (if cb = 0 then _ else FP.Core.roundRatio FP.Core.b64 (dS x != dS y) ca cb (qa - qb)) = _
    rw [if_neg b8]
    refine FP.Core.roundRatio_congr (by omega) (by omega) ?_
    rw [a10, b10]
    have e1 : ∀ A B : Nat, ca * (cb * 2 ^ A) * 2 ^ B = ca * cb * 2 ^ (A + B) := fun A B => by rw [Nat.pow_add]; ac_rfl
    have e2 : ∀ A B E : Nat, ca * 2 ^ A * 2 ^ B * cb * 2 ^ E = ca * cb * 2 ^ (A + B + E) := fun A B E => by rw [Nat.pow_add, Nat.pow_add]; ac_rfl
    rw [e1, e2]
    congr 2
    omega
  rw [hpr]
  suffices hs : ∃ r, f_X5_over_167 fuel x y ((x ^^^ y) &&& (-9223372036854775808 : Int64)) ma mb (0 : Int64) (0 : Int32) = some r ∧ dv r ≠ .nan ∧ dv r = FP.Core.roundRatio FP.Core.b64 (dS x != dS y) (ub ma * 2 ^ 60) (ub mb) (ea.toInt - eb.toInt - 60) by
    obtain ⟨r, s1, s2, s3⟩ := hs
    exact ⟨ma, mb, r, a1, b1, s1, s2, s3⟩
  obtain ⟨rest, quo, n, f1, f2, f3, hd1, hd2⟩ := over_loop61 (x := x) (y := y) (sg := (x ^^^ y) &&& (-9223372036854775808 : Int64)) (ma := ma) hfu (D := ub mb) rfl b3 b4 (by omega)
  rw [f1, f_X5_over_167]
  unfold f_X5_over_241
  rw [if_pos (by decide)]
  simp only [a2, b2, Option.bind_some]
  have hE : ((ea - eb) - (60 : Int32)).toInt = ea.toInt - eb.toInt - 60 := by
    have e60 : (60 : Int32).toInt = 60 := by decide
    rw [i_sub (by rw [i_sub (by omega) (by omega), e60]; omega) (by rw [i_sub (by omega) (by omega), e60]; omega), i_sub (by omega) (by omega), e60]
  have hdiv : ub ma * 2 ^ 60 / ub mb = ub quo := by
    rw [hd1, Nat.mul_add_div (by omega), Nat.div_eq_of_lt (by omega), Nat.add_zero]
  have hmod : ub ma * 2 ^ 60 % ub mb = ub rest / 2 := by
    rw [hd1, Nat.mul_add_mod, Nat.mod_eq_of_lt (by omega)]
  have hqlo : 2 ^ 59 ≤ ub quo := by rw [← hdiv]; exact q_lo a3 b4 (by omega)
  have hgo : ∀ (t1 : Int32) (w : Nat), ub t1.toInt64 = w → (w = if ub ma * 2 ^ 60 % ub mb = 0 then 0 else 1) → ∃ r, (f_X5_rounded ((x ^^^ y) &&& (-9223372036854775808 : Int64)) ((ea - eb) - (60 : Int32)) (quo ||| t1.toInt64)).bind (fun x1 => some x1) = some r ∧ dv r ≠ .nan ∧ dv r = FP.Core.roundRatio FP.Core.b64 (dS x != dS y) (ub ma * 2 ^ 60) (ub mb) (ea.toInt - eb.toInt - 60) := by
    intro t1 w hw hw2
    have hst := n_sticky (X := ub ma * 2 ^ 60) (D := ub mb) (by omega) (ub ma * 2 ^ 60 / ub mb ||| w) (by rw [hw2])
    have hm : ub (quo ||| t1.toInt64) = ub ma * 2 ^ 60 / ub mb ||| w := by rw [ub_or, hw, hdiv]
    have hor : ub quo ≤ ub ma * 2 ^ 60 / ub mb ||| w ∧ ub ma * 2 ^ 60 / ub mb ||| w ≤ ub quo + 1 := by
      rw [hdiv]
      refine ⟨Nat.left_le_or, ?_⟩
      by_cases c : ub ma * 2 ^ 60 % ub mb = 0
      · rw [if_pos c] at hw2; rw [hw2, Nat.or_zero]; omega
      · rw [if_neg c] at hw2
        rw [hw2]
        rcases Nat.mod_two_eq_zero_or_one (ub quo) with q | q
        · have e1 : ub quo = 2 ^ 1 * (ub quo / 2) := by omega
          conv => lhs; lhs; rw [e1]
          rw [n_or_top (by decide)]; omega
        · have e1 : ub quo = 2 ^ 1 * (ub quo / 2) + 1 := by omega
          conv => lhs; lhs; rw [e1]
          rw [← n_or_top (by decide), Nat.or_assoc, show (1 ||| 1 : Nat) = 1 from rfl, n_or_top (by decide)]; omega
    obtain ⟨r, g1, g2⟩ := rounded_ok (ub_sx x y) hm (by omega) (by omega) hE (by omega)
    refine ⟨r, by rw [g1]; rfl, by rw [g2]; exact FP.Core.roundRatio_ne_nan _ _ _ _ _, ?_⟩
    rw [g2]
    refine (st_round (by omega) ?_).symm
    rcases hst with h | ⟨-, h2, h3, h4⟩
    · exact .inl h
    · exact .inr ⟨by omega, h2, h3, h4⟩
  have hz : rest = (0 : Int64) ↔ ub ma * 2 ^ 60 % ub mb = 0 := by
    rw [ub_inj, hmod, show ub (0 : Int64) = 0 from rfl]; omega
  by_cases d : ub ma * 2 ^ 60 % ub mb = 0
  · rw [if_pos (hz.mpr d)]; exact hgo 0 0 (by decide) (by rw [if_pos d])
  · rw [if_neg (fun z => d (hz.mp z))]; exact hgo 1 1 (by decide) (by rw [if_neg d])
theorem over_ok (x y : Int64) : ∃ r, f_X5_over x y = some r ∧ (r = 9221120237041090560 ∨ dv r ≠ .nan) ∧ dv r = FP.Core.quotient FP.Core.b64 (dv x) (dv y) := by
  have key : f_X5_over x y = f_X5_over_79 x y ((x ^^^ y) &&& (-9223372036854775808 : Int64)) (if mg x = 0 then 1 else 0) (if mg y = 0 then 1 else 0) (if mg x = 9218868437227405312 then 1 else 0) (if mg y = 9218868437227405312 then 1 else 0) := by
    unfold f_X5_over f_X5_over_24 f_X5_over_41 f_X5_over_60
    simp only [jlet, mag_0, mag_i]
    by_cases c1 : mg x = 0 <;> by_cases c2 : mg y = 0 <;> by_cases c3 : mg x = 9218868437227405312 <;> by_cases c4 : mg y = 9218868437227405312 <;> simp only [c1, c2, c3, c4, show ((0 : Nat) = 9218868437227405312) = False from by decide, show ((9218868437227405312 : Nat) = 0) = False from by decide, if_true, if_false]
  rw [key]
  unfold f_X5_over_79 f_X5_over_105
  rw [isNot_ok, isNot_ok]
  have nan_case : (mg x ≤ 9218868437227405312 → mg y ≤ 9218868437227405312 → (mg x = 0 ∧ mg y = 0) ∨ (mg x = 9218868437227405312 ∧ mg y = 9218868437227405312)) → ∃ r, some (9221120237041090560 : Int64) = some r ∧ (r = 9221120237041090560 ∨ dv r ≠ .nan) ∧ dv r = FP.Core.quotient FP.Core.b64 (dv x) (dv y) := by
    intro h
    refine ⟨_, rfl, .inl rfl, ?_⟩
    rw [dv_nn]
    symm
    rw [FP.Core.quotient_nan]
    by_cases hx : mg x ≤ 9218868437227405312
    · by_cases hy : mg y ≤ 9218868437227405312
      · rcases h hx hy with ⟨h1, h2⟩ | ⟨h1, h2⟩
        · exact .inr (.inr (.inr ⟨_, _, _, _, dv_zero h1, dv_zero h2⟩))
        · exact .inr (.inr (.inl ⟨_, _, dv_inf h1, dv_inf h2⟩))
      · exact .inr (.inl ((dv_nan y).mpr (by omega)))
    · exact .inl ((dv_nan x).mpr (by omega))
  by_cases hx : mg x ≤ 9218868437227405312
  · by_cases hy : mg y ≤ 9218868437227405312
    · rw [if_pos hx, if_pos hy, if_pos rfl, if_pos rfl]
      have zero_case : (mg x = 0 ∧ mg y ≠ 0 ∨ mg y = 9218868437227405312 ∧ mg x ≠ 9218868437227405312) → ∃ r, some ((x ^^^ y) &&& (-9223372036854775808 : Int64)) = some r ∧ (r = 9221120237041090560 ∨ dv r ≠ .nan) ∧ dv r = FP.Core.quotient FP.Core.b64 (dv x) (dv y) := by
        intro h
        refine ⟨_, rfl, .inr ?_, ?_⟩
        · rw [dv_zero_of (ub_sx x y)]; exact FP.Core.Datum.noConfusion
        · rw [dv_zero_of (ub_sx x y)]
          by_cases i2 : mg y = 9218868437227405312
          · obtain ⟨c, q, h', h0', -⟩ := dv_fin (x := x) (by omega)
            rw [h', dv_inf i2]
            show _ = FP.Core.Datum.fin (dS x != dS y) 0 FP.Core.b64.qmin
            rw [b_q]
          · have z : mg x = 0 := by omega
            obtain ⟨c, q, h', h0', -⟩ := dv_fin (x := y) (by omega)
            rw [h', dv_zero z]
            show _ = if c = 0 then _ else FP.Core.roundRatio FP.Core.b64 (dS x != dS y) 0 c _
            rw [if_neg (by omega), rr_zero]
      have inf_case : (mg x = 9218868437227405312 ∧ mg y ≠ 9218868437227405312 ∨ mg y = 0 ∧ mg x ≠ 0) → ∃ r, f_X5_over_142 ((x ^^^ y) &&& (-9223372036854775808 : Int64)) = some r ∧ (r = 9221120237041090560 ∨ dv r ≠ .nan) ∧ dv r = FP.Core.quotient FP.Core.b64 (dv x) (dv y) := by
        intro h
        unfold f_X5_over_142
        have hr : ub (((x ^^^ y) &&& (-9223372036854775808 : Int64)) ||| (9218868437227405312 : Int64)) = (dS x != dS y).toNat * 9223372036854775808 + 9218868437227405312 := by
          rw [ub_or_sgn (sg_ub (ub_sx x y)) (by decide), ub_sx, ub_infc]
        refine ⟨_, rfl, .inr ?_, ?_⟩
        · rw [dv_inf_of hr]; exact FP.Core.Datum.noConfusion
        · rw [dv_inf_of hr]
          by_cases i1 : mg x = 9218868437227405312
          · obtain ⟨c, q, h', h0', -⟩ := dv_fin (x := y) (by omega)
            rw [h', dv_inf i1]; rfl
          · have z : mg y = 0 := by omega
            obtain ⟨c, q, h', h0', -⟩ := dv_fin (x := x) (by omega)
            rw [h', dv_zero z]
            show _ = (if c = 0 then FP.Core.Datum.nan else .inf (dS x != dS y))
            rw [if_neg (by omega)]
      unfold f_X5_over_119
      by_cases c1 : mg x = 0 <;> by_cases c2 : mg y = 0 <;> by_cases c3 : mg x = 9218868437227405312 <;> by_cases c4 : mg y = 9218868437227405312
      all_goals first
        | (exfalso; omega)
        | skip
      all_goals simp only [c1, c2, c3, c4, if_true, if_false, show ((1 : Int32) = 0) = False from by decide, show ((0 : Nat) = 9218868437227405312) = False from by decide, show ((9218868437227405312 : Nat) = 0) = False from by decide]
      all_goals first
        | exact nan_case (fun _ _ => by omega)
        | exact zero_case (by omega)
        | exact inf_case (by omega)
        | skip
      obtain ⟨ma, mb, r, k1, k2, g1, g2, g3⟩ := over_gen (x := x) (y := y) (fuel := 1100000) (by omega) (by omega) (by omega) (by omega) (by omega)
      rw [k1, k2]
      exact ⟨r, g1, .inr g2, g3⟩
    · rw [if_pos hx, if_neg hy, if_pos rfl, if_neg (by decide)]
      exact nan_case (fun _ z => absurd z hy)
  · rw [if_neg hx, if_neg (by decide)]
    exact nan_case (fun z => absurd z hx)

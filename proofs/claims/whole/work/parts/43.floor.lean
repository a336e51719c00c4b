/-! PURE: floor and near of doubles -/
theorem settle_rr {s : Bool} {c : Nat} {q : Int} (hc1 : 4503599627370496 ≤ c) (hc2 : c ≤ 9007199254740992) (h1 : -1074 ≤ q) (h2 : q ≤ 970) : FP.Core.settle FP.Core.b64 s c q = FP.Core.roundRatio FP.Core.b64 s c 1 q := by
  unfold FP.Core.settle FP.Core.bound
  rw [b_p, b_Q, b_t]
  by_cases h : c < 2 ^ 53
  · rw [if_pos h, if_pos (by omega)]
    refine (FP.Core.roundRatio_exact FP.Core.good_b64 Nat.one_pos ⟨by rw [b_p]; exact h, by rw [b_q]; exact h1, by rw [b_Q]; omega, .inr (by rw [b_t]; exact hc1)⟩ ?_).symm
    rw [Nat.mul_one]
  · rw [if_neg h, if_pos (by omega)]
    have hc : c = 9007199254740992 := by omega
    refine (FP.Core.roundRatio_exact FP.Core.good_b64 Nat.one_pos ⟨by rw [b_p]; decide, by rw [b_q]; omega, by rw [b_Q]; omega, .inr (by rw [b_t]; decide)⟩ ?_).symm
    rw [hc, show (q - (q + 1)).toNat = 0 by omega, show (q + 1 - q).toNat = 1 by omega]
theorem bits_rr {r : Int64} {s : Bool} {c : Nat} {q : Int} (h : ub r = s.toNat * 9223372036854775808 + (q + 1074).toNat * 4503599627370496 + c) (hc1 : 4503599627370496 ≤ c) (hc2 : c ≤ 9007199254740992) (h1 : -1074 ≤ q) (h2 : q ≤ 970) : dv r = FP.Core.roundRatio FP.Core.b64 s c 1 q := by
  refine dv_of_enc ?_ (FP.Core.roundRatio_fits FP.Core.good_b64 s c Nat.one_pos q)
  rw [← settle_rr hc1 hc2 h1 h2, enc_settle hc2 h1 (by omega) (.inr hc1), h]
theorem rr_int {s : Bool} {N k : Nat} : FP.Core.roundRatio FP.Core.b64 s (N * 2 ^ k) 1 (-(k : Int)) = FP.Core.roundRatio FP.Core.b64 s N 1 0 := by
  rw [rr_shift s N 0 k]
  congr 1
  omega
theorem val_l2d (n : Int64) : FP.Core.val64 (FP.l2d n) = FP.Core.roundRatio FP.Core.b64 (decide (n.toInt < 0)) n.toInt.natAbs 1 0 := by
  rw [show FP.l2d n = FP.Core.l2d n from rfl, FP.Core.val64_l2d]; rfl
theorem n_hi (n k : Nat) (hn : n < 18446744073709551616) (hk : k ≤ 64) : n &&& (18446744073709551616 - 2 ^ k) = n / 2 ^ k * 2 ^ k := by
  have hp : 2 ^ (64 - k) * 2 ^ k = 18446744073709551616 := by rw [← Nat.pow_add, show 64 - k + k = 64 by omega]
  have h := n_field n (64 - k) k
  rw [Nat.sub_mul, hp, Nat.one_mul] at h
  rw [h, Nat.mod_eq_of_lt]
  refine (Nat.div_lt_iff_lt_mul (Nat.two_pow_pos k)).mpr ?_
  rw [hp]; exact hn
theorem ub_nott (x : Int64) : ub (x ^^^ (-1 : Int64)) = 18446744073709551615 - ub x := by
  rw [ub_xor, show ub (-1 : Int64) = 2 ^ 64 - 1 from by decide, n_not (ub_lt x)]; omega
theorem frac_sh {k : Nat} (hk : k ≤ 52) : 4503599627370495 / 2 ^ (52 - k) = 2 ^ k - 1 := by
  have hp : 2 ^ k * 2 ^ (52 - k) = 4503599627370496 := by rw [← Nat.pow_add, show k + (52 - k) = 52 by omega]
  have h1 := Nat.two_pow_pos k
  have h2 := Nat.two_pow_pos (52 - k)
  have hs : (2 ^ k - 1) * 2 ^ (52 - k) = 4503599627370496 - 2 ^ (52 - k) := by rw [Nat.sub_mul, hp, Nat.one_mul]
  have hge : 2 ^ (52 - k) ≤ 4503599627370496 := by rw [← hp]; exact Nat.le_mul_of_pos_left _ h1
  refine (Nat.div_eq_iff h2).mpr ⟨by omega, by omega⟩
/-- a double between 1 and 2^52 in size: its whole part and its rest -/
theorem frac_parts {x : Int64} {k : Nat} (hk : ((ub x / 4503599627370496 % 2048 : Nat) : Int) - 1075 = -(k : Int)) (hk1 : 1 ≤ k) (hk2 : k ≤ 52) : dv x = .fin (dS x) (4503599627370496 + ub x % 4503599627370496) (-(k : Int)) ∧ ub x = (dS x).toNat * 9223372036854775808 + (-(k : Int) + 1074).toNat * 4503599627370496 + (4503599627370496 + ub x % 4503599627370496) ∧ (4503599627370496 + ub x % 4503599627370496) % 2 ^ k = ub x % 2 ^ k := by
  refine ⟨?_, ?_, ?_⟩
  · rw [dv_eq, if_neg (by omega), if_neg (by omega), hk]
  · have h := mg_sub (x := x)
    obtain ⟨hE, hT⟩ := dS_ub (x := x)
    have hm : mg x < 9223372036854775808 := Nat.mod_lt _ (by decide)
    have w : (-(k : Int) + 1074).toNat = mg x / 4503599627370496 - 1 := by clear h hT; omega
    have w1 : 1 ≤ mg x / 4503599627370496 := by clear h hT; omega
    have e : mg x = (mg x / 4503599627370496 - 1) * 4503599627370496 + (4503599627370496 + mg x % 4503599627370496) := by clear h hT hE hk w; omega
    rw [w, hT, Nat.add_assoc, ← e]
    exact h
  · obtain ⟨w, hw⟩ : ∃ w, 52 = k + w := ⟨52 - k, by omega⟩
    have hp : 4503599627370496 = 2 ^ k * 2 ^ w := by rw [← Nat.pow_add, ← hw]
    rw [hp, Nat.mul_add_mod, Nat.mod_mul_right_mod]
theorem dneg_u (x : Int64) : FP.dneg x.toUInt64 = (x ^^^ (-9223372036854775808 : Int64)).toUInt64 := by
  show x.toUInt64 ^^^ 0x8000000000000000 = _
  rw [show (0x8000000000000000 : UInt64) = (-9223372036854775808 : Int64).toUInt64 from by decide]; rfl
theorem two52 : (4841369599423283200 : UInt64) = (4841369599423283200 : Int64).toUInt64 := by decide
theorem ntwo52 : (14064741636278059008 : UInt64) = (-4382002437431492608 : Int64).toUInt64 := by decide
theorem kx_two52 : kx (4841369599423283200 : Int64) = 4841369599423283200 := by decide
theorem kx_ntwo52 : kx (-4382002437431492608 : Int64) = -4841369599423283200 := by decide
theorem nN_two52 : nN (4841369599423283200 : Int64) := by unfold nN; decide
theorem nN_ntwo52 : nN (-4382002437431492608 : Int64) := by unfold nN; decide
theorem d2l_frac {x : Int64} {k : Nat} (hk : ((ub x / 4503599627370496 % 2048 : Nat) : Int) - 1075 = -(k : Int)) (hk1 : 1 ≤ k) (hk2 : k ≤ 52) : (FP.d2l x.toUInt64).toInt = FP.Core.signed (dS x) ((4503599627370496 + ub x % 4503599627370496) / 2 ^ k) := by
  obtain ⟨h1, -, -⟩ := frac_parts hk hk1 hk2
  show (Int64.ofInt (FP.Core.toInt (-2 ^ 63) (2 ^ 63 - 1) (dv x))).toInt = _
  rw [h1]
  show (Int64.ofInt (max (-2 ^ 63) (min (2 ^ 63 - 1) (FP.Core.signed (dS x) ((4503599627370496 + ub x % 4503599627370496) * 2 ^ (-(k : Int)).toNat / 2 ^ (-(-(k : Int))).toNat))))).toInt = _
  rw [show (-(k : Int)).toNat = 0 by omega, show (-(-(k : Int))).toNat = k by omega, Nat.pow_zero, Nat.mul_one]
  have hle : (4503599627370496 + ub x % 4503599627370496) / 2 ^ k ≤ 4503599627370496 + ub x % 4503599627370496 := Nat.div_le_self _ _
  generalize (4503599627370496 + ub x % 4503599627370496) / 2 ^ k = Z at *
  cases dS x <;> simp only [FP.Core.signed, Bool.false_eq_true, if_false, if_true] <;> rw [l_of (by omega) (by omega)] <;> omega
theorem d2l_low {x : Int64} (h : ub x / 4503599627370496 % 2048 < 1023) : FP.d2l x.toUInt64 = 0 := by
  rw [← cutOff_ok]
  have hP := power_int x
  unfold f_X5_cutOff
  simp only [jlet, isNot_ok]
  by_cases c : mg x ≤ 9218868437227405312
  · rw [if_pos c, if_pos rfl, if_neg (by rw [i_le, t_0, hP]; omega)]
  · rw [if_neg c, if_neg (by decide)]
theorem l2d_0 : FP.l2d 0 = (0 : Int64).toUInt64 := by decide +kernel
theorem l2d_1 : FP.dconst1 = FP.l2d 1 := by decide +kernel
theorem l2d_52 : (4841369599423283200 : UInt64) = FP.l2d 4503599627370496 := by decide +kernel
theorem of_int_toInt (n : Int64) : n.toInt = FP.Core.signed (decide (n.toInt < 0)) n.toInt.natAbs := by
  unfold FP.Core.signed
  by_cases h : n.toInt < 0
  · rw [decide_eq_true h, if_pos rfl]; omega
  · rw [decide_eq_false h, if_neg (by decide)]; omega
theorem l2d_eq {n r : Int64} {s : Bool} {N : Nat} (hn : n.toInt = FP.Core.signed s N) (hN : 0 < N) (hr : dv r = FP.Core.roundRatio FP.Core.b64 s N 1 0) : FP.l2d n = r.toUInt64 := by
  have hnn : dv r ≠ .nan := by rw [hr]; exact FP.Core.roundRatio_ne_nan _ _ _ _ _
  refine dv_inj ?_ hnn
  rw [val_l2d, hr, hn, FP.Core.natAbs_signed, FP.Core.signed_lt_zero s hN]
theorem l_small {n : Int64} {s : Bool} {N : Nat} (hn : n.toInt = FP.Core.signed s N) (hN : N ≤ 9007199254740992) : FP.Core.DInt n.toInt (FP.l2d n) := FP.Core.l2d_int (by rw [hn, FP.Core.natAbs_signed]; exact hN)
theorem pow_1074 {k : Nat} (hk : k ≤ 1074) : FP.Core.one64 = 2 ^ k * 2 ^ (1074 - k) := by
  rw [← Nat.pow_add, show k + (1074 - k) = 1074 by omega]; rfl
theorem floor_cmp {x : Int64} {k : Nat} (hk : ((ub x / 4503599627370496 % 2048 : Nat) : Int) - 1075 = -(k : Int)) (hk1 : 1 ≤ k) (hk2 : k ≤ 52) : Op.cmpValue (FP.dcmp (FP.l2d (FP.d2l x.toUInt64)) x.toUInt64) .l ≤ 0 ↔ ¬ (dS x = true ∧ ub x % 2 ^ k ≠ 0) := by
  obtain ⟨h1, -, h3⟩ := frac_parts hk hk1 hk2
  have hd := d2l_frac hk hk1 hk2
  rw [(co_l _).2.2.1, Ne, show FP.dcmp (FP.l2d (FP.d2l x.toUInt64)) x.toUInt64 = FP.Core.dcmp (FP.l2d (FP.d2l x.toUInt64)) x.toUInt64 from rfl, FP.Core.dcmp_gt]
  have hle : (4503599627370496 + ub x % 4503599627370496) / 2 ^ k ≤ 4503599627370496 + ub x % 4503599627370496 := Nat.div_le_self _ _
  have hD := l_small hd (by omega)
  have hz1 := FP.Core.DInt_zval hD
  have hz2 : FP.Core.zval FP.Core.b64 (FP.Core.val64 x.toUInt64) = FP.Core.signed (dS x) ((4503599627370496 + ub x % 4503599627370496) * 2 ^ (1074 - k)) := by
    show FP.Core.zval FP.Core.b64 (dv x) = _
    rw [h1]
    show FP.Core.signed (dS x) ((4503599627370496 + ub x % 4503599627370496) * 2 ^ (-(k : Int) - FP.Core.b64.qmin).toNat) = _
    rw [b_q, show (-(k : Int) - (-1074)).toNat = 1074 - k by omega]
  have hn : FP.Core.val64 x.toUInt64 ≠ .nan := by
    show dv x ≠ .nan
    rw [h1]; exact FP.Core.Datum.noConfusion
  have hn2 := FP.Core.DInt_ne_nan hD
  rw [hz1, hz2, hd, ← h3]
  have hdm := Nat.div_add_mod (4503599627370496 + ub x % 4503599627370496) (2 ^ k)
  generalize 4503599627370496 + ub x % 4503599627370496 = c at *
  rw [pow_1074 (show k ≤ 1074 by omega), ← FP.Core.signed_mul]
  have hp := Nat.two_pow_pos (1074 - k)
  have e1 : c / 2 ^ k * (2 ^ k * 2 ^ (1074 - k)) = (2 ^ k * (c / 2 ^ k)) * 2 ^ (1074 - k) := by rw [← Nat.mul_assoc, Nat.mul_comm (c / 2 ^ k)]
  rw [e1]
  have hlt : 2 ^ k * (c / 2 ^ k) * 2 ^ (1074 - k) < c * 2 ^ (1074 - k) ↔ c % 2 ^ k ≠ 0 := by
    rw [Nat.mul_lt_mul_right hp]; omega
  have hle2 : 2 ^ k * (c / 2 ^ k) * 2 ^ (1074 - k) ≤ c * 2 ^ (1074 - k) := Nat.mul_le_mul_right _ (by omega)
  refine not_congr ?_
  constructor
  · rintro ⟨-, -, h⟩
    cases hs : dS x
    · rw [hs] at h
      simp only [FP.Core.signed, Bool.false_eq_true, if_false] at h
      omega
    · rw [hs] at h
      simp only [FP.Core.signed, if_true] at h
      exact ⟨rfl, hlt.mp (by omega)⟩
  · rintro ⟨hs, h⟩
    refine ⟨hn2, hn, ?_⟩
    rw [hs]
    simp only [FP.Core.signed, if_true]
    have := hlt.mpr h
    omega
theorem below_bits {x : Int64} {k : Nat} (hk : ((ub x / 4503599627370496 % 2048 : Nat) : Int) - 1075 = -(k : Int)) (hk1 : 1 ≤ k) (hk2 : k ≤ 52) : ub (f_X5_below x) = ub x - ub x % 2 ^ k + (if dS x = true ∧ ub x % 2 ^ k ≠ 0 then 2 ^ k else 0) := by
  have hP := power_int x
  have hx := ub_lt x
  have hpk : 2 ^ k ≤ 2 ^ 52 := Nat.pow_le_pow_right (by decide) hk2
  have hp0 := Nat.two_pow_pos k
  have hsh : (f_X5_power x).toInt = ((52 - k : Nat) : Int) := by rw [hP]; omega
  have hf := ub_shr (4503599627370495 : Int64) hsh (by omega)
  rw [show ub (4503599627370495 : Int64) = 4503599627370495 from by decide, frac_sh hk2] at hf
  unfold f_X5_below
  simp only [jlet]
  rw [if_pos (by rw [i_lt, hP, show (52 : Int32).toInt = 52 from by decide]; omega), if_pos (by rw [i_le, hP, t_0]; omega)]
  have hmask : ∀ y : Int64, ub (y &&& ((((4503599627370495 : Int64).toUInt64 >>> ((f_X5_power x).toInt64.toUInt64 &&& Int64.toUInt64 63)).toInt64) ^^^ (-1 : Int64))) = ub y / 2 ^ k * 2 ^ k := by
    intro y
    rw [ub_and, ub_nott, hf, show 18446744073709551615 - (2 ^ k - 1) = 18446744073709551616 - 2 ^ k by omega, n_hi _ _ (ub_lt y) (by omega)]
  have hdm := Nat.div_add_mod (ub x) (2 ^ k)
  have hml := Nat.mod_lt (ub x) hp0
  rw [Nat.mul_comm] at hdm
  cases hs : dS x
  · rw [if_pos (dS_nn.mpr hs), hmask, if_neg (by simp)]; omega
  · rw [if_neg (by rw [dS_nn, hs]; decide), hmask]
    have hm : mg x < 9223372036854775808 := Nat.mod_lt _ (by decide)
    obtain ⟨hE, hT⟩ := dS_ub (x := x)
    have hsub := mg_sub (x := x)
    rw [hs] at hsub
    simp only [Bool.toNat_true] at hsub
    have hadd : ub (x + (((4503599627370495 : Int64).toUInt64 >>> ((f_X5_power x).toInt64.toUInt64 &&& Int64.toUInt64 63)).toInt64)) = ub x + (2 ^ k - 1) := by
      rw [ub_add, hf]; omega
    rw [hadd]
    by_cases c : ub x % 2 ^ k = 0
    · rw [if_neg (by simp [c])]
      have : (ub x + (2 ^ k - 1)) / 2 ^ k = ub x / 2 ^ k := by
        rw [Nat.div_eq_iff hp0]; omega
      rw [this]; omega
    · rw [if_pos ⟨rfl, c⟩]
      have : (ub x + (2 ^ k - 1)) / 2 ^ k = ub x / 2 ^ k + 1 := by
        rw [Nat.div_eq_iff hp0, Nat.add_mul]; omega
      rw [this, Nat.add_mul]; omega
theorem floor_ok {x : Int64} (hx : vcan x) : f_X12_floor x.toUInt64 = some (f_X5_below x).toUInt64 ∧ vcan (f_X5_below x) := by
  have hP := power_int x
  have t52 : (52 : Int32).toInt = 52 := by decide
  have hm : mg x < 9223372036854775808 := Nat.mod_lt _ (by decide)
  obtain ⟨hE, hT⟩ := dS_ub (x := x)
  unfold f_X12_floor
  rw [two52, ntwo52]
  simp only [self_eq, cl_ge, cg_le, z_eq, kx_two52, kx_ntwo52]
  have big : 4841369599423283200 ≤ mg x → f_X5_below x = x := by
    intro h
    unfold f_X5_below
    simp only [jlet]
    rw [if_neg (by rw [i_lt, hP, t52]; omega)]
  by_cases hn : nN x
  · rw [if_pos hn]
    have hk : kx x = if dS x then -(mg x : Int) else (mg x : Int) := rfl
    by_cases c1 : 4841369599423283200 ≤ mg x
    · rw [big c1]
      refine ⟨?_, hx⟩
      cases hs : dS x
      · rw [if_pos ⟨hn, nN_two52, by rw [hk, hs]; simp; omega⟩]
      · rw [if_neg (by rw [hk, hs]; simp; intro _ _; omega), if_pos ⟨hn, nN_ntwo52, by rw [hk, hs]; simp; omega⟩]
    · rw [if_neg (by rintro ⟨-, -, z⟩; rw [hk] at z; revert z; cases dS x <;> simp <;> omega), if_neg (by rintro ⟨-, -, z⟩; rw [hk] at z; revert z; cases dS x <;> simp <;> omega)]
      by_cases c2 : mg x = 0
      · rw [if_pos c2]
        have : f_X5_below x = x := by
          rcases sub_cases c2 with h | h <;> rw [h] <;> decide
        rw [this]; exact ⟨rfl, hx⟩
      · rw [if_neg c2]
        simp only [jlet]
        by_cases c3 : mg x < 4607182418800017408
        · rw [d2l_low (by omega), l2d_0]
          simp only [cl_le, kx_0]
          have hb : f_X5_below x = if dS x = true then -4616189618054758400 else 0 := by
            unfold f_X5_below f_X5_below_31
            simp only [jlet]
            rw [if_pos (by rw [i_lt, hP, t52]; omega), if_neg (by rw [i_le, hP, t_0]; omega)]
            cases hs : dS x
            · rw [if_pos (dS_nn.mpr hs), if_neg (by decide), ub_inj, ub_sg, hs]; decide
            · rw [if_neg (by rw [dS_nn, hs]; decide), if_neg, if_pos rfl]
              intro z
              rw [z] at c2
              exact c2 (by decide)
          rw [hb]
          cases hs : dS x
          · rw [if_pos (by rintro ⟨-, -, z⟩; rw [hk, hs] at z; simp at z; omega)]
            refine ⟨?_, by simp; exact d0_can⟩
            unfold f_X12_floor_47
            rw [if_pos (by decide +kernel)]
            have := cg_ge (x := x) (y := 0)
            rw [← d0_u, kx_0] at this
            rw [if_pos (this.mpr (by rintro ⟨-, -, z⟩; rw [hk, hs] at z; simp at z; omega))]
            rfl
          · rw [if_neg (by rw [Decidable.not_not]; refine ⟨nN_0, hn, ?_⟩; rw [hk, hs]; simp; omega)]
            have e1 : FP.dsub (0 : Int64).toUInt64 FP.dconst1 = (-4616189618054758400 : Int64).toUInt64 := by decide +kernel
            rw [e1, if_pos (by decide)]
            refine ⟨?_, by simp; unfold vcan; decide⟩
            unfold f_X12_floor_47
            rw [if_neg (by decide +kernel)]
            rfl
        · obtain ⟨k, hkk⟩ : ∃ k : Nat, ((ub x / 4503599627370496 % 2048 : Nat) : Int) - 1075 = -(k : Int) := ⟨(1075 - (ub x / 4503599627370496 % 2048 : Nat)), by omega⟩
          have hk1 : 1 ≤ k := by omega
          have hk2 : k ≤ 52 := by omega
          obtain ⟨f1, f2, f3⟩ := frac_parts hkk hk1 hk2
          have hd := d2l_frac hkk hk1 hk2
          have hcmp := floor_cmp hkk hk1 hk2
          have hbits := below_bits hkk hk1 hk2
          have hdm := Nat.div_add_mod (4503599627370496 + ub x % 4503599627370496) (2 ^ k)
          have hp0 := Nat.two_pow_pos k
          have hpk : 2 ^ k ≤ 2 ^ 52 := Nat.pow_le_pow_right (by decide) hk2
          rw [f3, Nat.mul_comm] at hdm
          have hxm : ub x % 2 ^ k < 2 ^ k := Nat.mod_lt _ hp0
          have hN1 : 1 ≤ (4503599627370496 + ub x % 4503599627370496) / 2 ^ k := (Nat.le_div_iff_mul_le hp0).mpr (by omega)
          have hw : 2 ^ k * 2 ^ (52 - k) = 4503599627370496 := by rw [← Nat.pow_add, show k + (52 - k) = 52 by omega]
          have hNk : 4503599627370496 ≤ (4503599627370496 + ub x % 4503599627370496) / 2 ^ k * 2 ^ k := by
            have : 2 ^ (52 - k) ≤ (4503599627370496 + ub x % 4503599627370496) / 2 ^ k := (Nat.le_div_iff_mul_le hp0).mpr (by rw [Nat.mul_comm, hw]; omega)
            have := Nat.mul_le_mul_right (2 ^ k) this
            rw [Nat.mul_comm (2 ^ (52 - k)), hw] at this
            exact this
          have hNu : ((4503599627370496 + ub x % 4503599627370496) / 2 ^ k + 1) * 2 ^ k ≤ 9007199254740992 := by
            have h1 : (4503599627370496 + ub x % 4503599627370496) / 2 ^ k < 2 * 2 ^ (52 - k) := by
              refine (Nat.div_lt_iff_lt_mul hp0).mpr ?_
              rw [Nat.mul_assoc, Nat.mul_comm (2 ^ (52 - k)), hw]; omega
            have h2 := Nat.mul_le_mul_right (2 ^ k) (Nat.succ_le_of_lt h1)
            rw [Nat.mul_assoc, Nat.mul_comm (2 ^ (52 - k)), hw] at h2
            exact h2
          have hle : (4503599627370496 + ub x % 4503599627370496) / 2 ^ k ≤ 4503599627370496 + ub x % 4503599627370496 := Nat.div_le_self _ _
          have hfin : ∀ (N : Nat) (n : Int64), 1 ≤ N → n.toInt = FP.Core.signed (dS x) N → 4503599627370496 ≤ N * 2 ^ k → N * 2 ^ k ≤ 9007199254740992 → ub (f_X5_below x) = (dS x).toNat * 9223372036854775808 + (-(k : Int) + 1074).toNat * 4503599627370496 + N * 2 ^ k → f_X12_floor_47 x.toUInt64 (FP.l2d n) = some (f_X5_below x).toUInt64 ∧ vcan (f_X5_below x) ∧ jnn (FP.l2d n) = true := by
            intro N n hN hn' h1 h2 h3
            have hr := bits_rr h3 h1 h2 (by omega) (by omega)
            rw [rr_int] at hr
            have hl := l2d_eq hn' (by omega) hr
            have hnn : dv (f_X5_below x) ≠ .nan := by rw [hr]; exact FP.Core.roundRatio_ne_nan _ _ _ _ _
            refine ⟨?_, can_of (.inr hnn), jnn_iff.mpr (by rw [hl]; exact hnn)⟩
            unfold f_X12_floor_47
            rw [hl]
            rw [if_neg]
            rw [z_eq]
            unfold mg
            rw [h3]
            have : (-(k : Int) + 1074).toNat ≤ 1073 := by omega
            cases dS x <;> simp only [Bool.toNat_true, Bool.toNat_false] <;> omega
          generalize (4503599627370496 + ub x % 4503599627370496) / 2 ^ k = N0 at *
          rw [Nat.add_mul, Nat.one_mul] at hNu
          by_cases c4 : dS x = true ∧ ub x % 2 ^ k ≠ 0
          · rw [if_neg (fun z => (hcmp.mp z) c4)]
            rw [if_pos c4] at hbits
            have hn1 : (FP.d2l x.toUInt64 - 1).toInt = FP.Core.signed (dS x) (N0 + 1) := by
              rw [l_sub (by rw [hd, c4.1]; simp [FP.Core.signed]; omega) (by rw [hd, c4.1]; simp [FP.Core.signed]; omega), hd, c4.1]
              simp [FP.Core.signed]; omega
            have hs53 : FP.Core.Small53 (FP.d2l x.toUInt64) := by
              unfold FP.Core.Small53
              rw [hd, c4.1]; simp [FP.Core.signed]; omega
            have e1 : FP.dsub (FP.l2d (FP.d2l x.toUInt64)) FP.dconst1 = FP.l2d (FP.d2l x.toUInt64 - 1) := by
              rw [l2d_1]
              exact FP.Core.dsub_l2d hs53 (by unfold FP.Core.Small53; decide)
            obtain ⟨g1, g2, g3⟩ := hfin (N0 + 1) _ (by omega) hn1 (by rw [Nat.add_mul, Nat.one_mul]; omega) (by rw [Nat.add_mul, Nat.one_mul]; omega) (by rw [hbits, Nat.add_mul, Nat.one_mul]; omega)
            rw [e1, if_pos g3]
            exact ⟨g1, g2⟩
          · rw [if_pos (hcmp.mpr c4)]
            rw [if_neg c4] at hbits
            obtain ⟨g1, g2, g3⟩ := hfin N0 _ hN1 hd hNk (by omega) (by rw [hbits]; omega)
            exact ⟨g1, g2⟩
  · rw [if_neg hn]
    have hb := big (by unfold nN at hn; omega)
    rw [hb]; exact ⟨rfl, hx⟩

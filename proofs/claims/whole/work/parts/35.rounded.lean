/-! PURE: what the class's rounding does -/
theorem dv_of_enc {r : Int64} {d : FP.Core.Datum} (h : ub r = FP.Core.encode FP.Core.b64 d) (hf : FP.Core.fits FP.Core.b64 d) : dv r = d := by
  show FP.Core.decode FP.Core.b64 (ub r) = d
  rw [h]
  exact FP.Core.decode_encode FP.Core.good_b64 d hf
theorem sg_ub {s : Bool} {sg : Int64} (h : ub sg = s.toNat * 9223372036854775808) : ub sg = 0 ∨ ub sg = 9223372036854775808 := by
  cases s
  · exact .inl (by rw [h]; rfl)
  · exact .inr (by rw [h]; rfl)
theorem rr_shift (s : Bool) (M : Nat) (E : Int) (j : Nat) : FP.Core.roundRatio FP.Core.b64 s M 1 E = FP.Core.roundRatio FP.Core.b64 s (M * 2 ^ j) 1 (E - j) := by
  refine FP.Core.roundRatio_congr Nat.one_pos Nat.one_pos ?_
  rw [show (E - (E - (j : Int))).toNat = j by omega, show (E - (j : Int) - E).toNat = 0 by omega]
  simp
theorem t_52 : (52 : Int32).toInt = (52 : Nat) := by decide
theorem r156 {s : Bool} {sg k : Int64} {field : Int32} {F : Int} {K : Nat} (hs : ub sg = s.toNat * 9223372036854775808) (hk : ub k = K) (hK : K ≤ 9007199254740992) (hF : field.toInt = F) (hF2 : F ≤ 2046) : ∃ r, f_X5_rounded_156 sg field k = some r ∧ ub r = s.toNat * 9223372036854775808 + (if 0 < F then (F - 1).toNat * 4503599627370496 else 0) + K := by
  unfold f_X5_rounded_156 f_X5_rounded_178
  by_cases h : 0 < F
  · rw [if_neg (by rw [i_le, t_0]; omega), if_pos h]
    have h1 : (field - (1 : Int32)).toInt = F - 1 := by rw [i_sub1 (by omega)]; omega
    have h2 : ub (field - (1 : Int32)).toInt64 = (F - 1).toNat := by have := ub_32 (x := field - (1 : Int32)) (by omega); omega
    have h3 : ub (((field - (1 : Int32)).toInt64 <<< ((52 : Int32).toInt64 &&& 63)) + k) = (F - 1).toNat * 4503599627370496 + K := by
      rw [ub_add, ub_shl _ t_52 (by decide), h2, hk]; omega
    refine ⟨_, rfl, ?_⟩
    rw [ub_or_sgn (sg_ub hs) (by omega), hs, h3]; omega
  · rw [if_pos (by rw [i_le, t_0]; omega), if_neg h]
    refine ⟨_, rfl, ?_⟩
    rw [ub_or_sgn (sg_ub hs) (by omega), hs, hk]; omega
theorem r88 {s : Bool} {sg m : Int64} {M G : Nat} {F : Int} {field g : Int32} (hs : ub sg = s.toNat * 9223372036854775808) (hm : ub m = M) (h63 : M < 9223372036854775808) (hF : field.toInt = F) (hF2 : F ≤ 2046) (hg : g.toInt = G) (hG : 10 ≤ G) (hFG : 0 < F → G = 10) :
    ∃ r, f_X5_rounded_88 sg m field g = some r ∧ ub r = s.toNat * 9223372036854775808 + (if 0 < F then (F - 1).toNat * 4503599627370496 else 0) + FP.Core.nearest M (2 ^ G) := by
  unfold f_X5_rounded_88
  by_cases h : G ≤ 63
  · rw [if_pos (by rw [i_le, hg, show (63 : Int32).toInt = 63 from rfl]; omega)]
    have hp : 2 ^ G ≤ 2 ^ 63 := Nat.pow_le_pow_right (by decide) h
    have hp0 := Nat.two_pow_pos G
    have hq : 2 ^ (G - 1) ≤ 2 ^ 62 := Nat.pow_le_pow_right (by decide) (by omega)
    have hlow : 2 ^ 10 ≤ 2 ^ G := Nat.pow_le_pow_right (by decide) hG
    have x4 := ub_shr m hg (by omega)
    rw [hm] at x4
    have y1 : ub ((1 : Int64) <<< (g.toInt64 &&& 63)) = 2 ^ G := by
      rw [ub_shl _ hg (by omega), show ub (1 : Int64) = 1 from rfl]; omega
    have y2 : ub (((1 : Int64) <<< (g.toInt64 &&& 63)) - (1 : Int64)) = 2 ^ G - 1 := by
      rw [ub_sub, y1, show ub (1 : Int64) = 1 from rfl]; omega
    have x5 : ub (m &&& (((1 : Int64) <<< (g.toInt64 &&& 63)) - (1 : Int64))) = M % 2 ^ G := by
      rw [ub_and, y2, hm, Nat.and_two_pow_sub_one_eq_mod]
    have g1 : (g - (1 : Int32)).toInt = ((G - 1 : Nat) : Int) := by rw [i_sub1 (by omega)]; omega
    have x6 : ub ((1 : Int64) <<< ((g - (1 : Int32)).toInt64 &&& 63)) = 2 ^ (G - 1) := by
      rw [ub_shl _ g1 (by omega), show ub (1 : Int64) = 1 from rfl]; omega
    have hml : M % 2 ^ G ≤ M := Nat.mod_le _ _
    have hdl : M / 2 ^ G < 2 ^ 53 := by
      refine (Nat.div_lt_iff_lt_mul hp0).mpr ?_
      have := Nat.mul_le_mul_left (2 ^ 53) hlow
      omega
    simp only [jlet]
    have c1 : ((1 : Int64) <<< ((g - (1 : Int32)).toInt64 &&& 63)) < (m &&& (((1 : Int64) <<< (g.toInt64 &&& 63)) - (1 : Int64))) ↔ 2 ^ (G - 1) < M % 2 ^ G := by
      rw [ub_llt (by omega) (by omega), x5, x6]
    have c2 : (m &&& (((1 : Int64) <<< (g.toInt64 &&& 63)) - (1 : Int64))) = ((1 : Int64) <<< ((g - (1 : Int32)).toInt64 &&& 63)) ↔ M % 2 ^ G = 2 ^ (G - 1) := by
      rw [ub_inj, x5, x6]
    have c3 : (((m.toUInt64 >>> (g.toInt64.toUInt64 &&& Int64.toUInt64 63)).toInt64) &&& (1 : Int64)) = (0 : Int64) ↔ M / 2 ^ G % 2 = 0 := by
      rw [ub_inj, ub_and, x4, show ub (1 : Int64) = 2 ^ 1 - 1 from rfl, Nat.and_two_pow_sub_one_eq_mod]; rfl
    have up : ∃ r, f_X5_rounded_150 sg field ((m.toUInt64 >>> (g.toInt64.toUInt64 &&& Int64.toUInt64 63)).toInt64) = some r ∧ ub r = s.toNat * 9223372036854775808 + (if 0 < F then (F - 1).toNat * 4503599627370496 else 0) + (M / 2 ^ G + 1) := by
      unfold f_X5_rounded_150 jlet
      refine r156 hs ?_ (by omega) hF hF2
      rw [ub_add, x4, show ub (1 : Int64) = 1 from rfl]; omega
    have dn : ∃ r, f_X5_rounded_156 sg field ((m.toUInt64 >>> (g.toInt64.toUInt64 &&& Int64.toUInt64 63)).toInt64) = some r ∧ ub r = s.toNat * 9223372036854775808 + (if 0 < F then (F - 1).toNat * 4503599627370496 else 0) + (M / 2 ^ G) := r156 hs x4 (by omega) hF hF2
    rw [n_ne (show 1 ≤ G by omega)]
    by_cases d1 : 2 ^ (G - 1) < M % 2 ^ G
    · rw [if_pos (c1.mpr d1), if_pos d1]; exact up
    · rw [if_neg (fun z => d1 (c1.mp z)), if_neg d1]
      by_cases d2 : M % 2 ^ G = 2 ^ (G - 1)
      · rw [if_pos (c2.mpr d2), if_pos d2]
        by_cases d3 : M / 2 ^ G % 2 = 0
        · rw [if_pos (c3.mpr d3), if_pos d3]; exact dn
        · rw [if_neg (fun z => d3 (c3.mp z)), if_neg d3]; exact up
      · rw [if_neg (fun z => d2 (c2.mp z)), if_neg d2]; exact dn
  · rw [if_neg (by rw [i_le, hg, show (63 : Int32).toInt = 63 from rfl]; omega)]
    refine ⟨_, rfl, ?_⟩
    have hp : 2 ^ 64 ≤ 2 ^ G := Nat.pow_le_pow_right (by decide) (by omega)
    have : FP.Core.nearest M (2 ^ G) = 0 := by
      unfold FP.Core.nearest
      have hlt : M < 2 ^ G := by omega
      rw [Nat.mod_eq_of_lt hlt, Nat.div_eq_of_lt hlt, if_pos (by omega)]
    rw [this, if_neg (by omega), hs]; omega
theorem sh_half : ∀ b : Fin 33, (nI b.val) >>> ((1 : Int32) &&& 31) = nI (b.val / 2) := by decide +kernel
theorem norm_step {sg m : Int64} {e : Int32} {b : Nat} (hb1 : 0 < b) (hb2 : b ≤ 32) {M : Nat} {E : Int} (hm : ub m = M) (h63 : M < 9223372036854775808) (h1 : 9223372036854775808 ≤ M * 2 ^ (2 * b)) (he : e.toInt = E) (hE : -5000 ≤ E ∧ E ≤ 5000) (n : Nat) :
    ∃ (m' : Int64) (e' : Int32) (j : Nat), f_X5_rounded_10 (n + 1) sg m e (nI b) = f_X5_rounded_10 n sg m' e' (nI (b / 2)) ∧ ub m' = M * 2 ^ j ∧ e'.toInt = E - j ∧ j ≤ b ∧ M * 2 ^ j < 9223372036854775808 ∧ 9223372036854775808 ≤ M * 2 ^ j * 2 ^ b := by
  have hbi : (nI b).toInt = b := nI_toInt (by omega)
  have hh := sh_half ⟨b, by omega⟩
  have hk : ((63 : Int32) - nI b).toInt = ((63 - b : Nat) : Int) := by
    rw [i_sub (by rw [hbi, show (63 : Int32).toInt = 63 from rfl]; omega) (by rw [hbi, show (63 : Int32).toInt = 63 from rfl]; omega), hbi, show (63 : Int32).toInt = 63 from rfl]; omega
  have hs := ub_shr m hk (by omega)
  rw [hm] at hs
  have hpp : 2 ^ (63 - b) * 2 ^ b = 9223372036854775808 := by rw [← Nat.pow_add, show 63 - b + b = 63 by omega]
  have hpb := Nat.two_pow_pos b
  have hpc := Nat.two_pow_pos (63 - b)
  rw [f_X5_rounded_10]
  unfold f_X5_rounded_42
  rw [if_neg (by rw [i_le, hbi, t_0]; omega)]
  simp only [jlet]
  by_cases hc : M < 2 ^ (63 - b)
  · rw [if_pos (by rw [ub_inj, hs, Nat.div_eq_of_lt hc]; rfl)]
    have hlt : M * 2 ^ b < 9223372036854775808 := by rw [← hpp]; exact Nat.mul_lt_mul_of_pos_right hc hpb
    refine ⟨m <<< ((nI b).toInt64 &&& 63), e - nI b, b, by rw [hh], ?_, ?_, Nat.le_refl _, hlt, ?_⟩
    · rw [ub_shl m hbi (by omega), hm]; omega
    · rw [i_sub (by rw [hbi, he]; omega) (by rw [hbi, he]; omega), hbi, he]
    · rw [Nat.mul_assoc, ← Nat.pow_add, show b + b = 2 * b by omega]; exact h1
  · rw [if_neg (fun z => hc (by
      rw [ub_inj, hs] at z
      have z : M / 2 ^ (63 - b) = 0 := z
      exact (Nat.div_eq_zero_iff_lt hpc).mp z))]
    refine ⟨m, e, 0, by rw [hh], by rw [hm]; simp, by rw [he]; simp, by omega, by simpa using h63, ?_⟩
    rw [Nat.pow_zero, Nat.mul_one, ← hpp]
    exact Nat.mul_le_mul_right _ (Nat.not_lt.mp hc)
theorem round_end {s : Bool} {sg m : Int64} {e : Int32} {M : Nat} {E : Int} (hs : ub sg = s.toNat * 9223372036854775808) (hm : ub m = M) (h62 : 4611686018427387904 ≤ M) (h63 : M < 9223372036854775808) (he : e.toInt = E) (hE : -5000 ≤ E ∧ E ≤ 5000) (n : Nat) :
    ∃ r, f_X5_rounded_10 (n + 1) sg m e (nI 0) = some r ∧ dv r = FP.Core.roundRatio FP.Core.b64 s M 1 E := by
  unfold f_X5_rounded_10
  rw [if_pos (by decide)]
  have hx : (e + (1085 : Int32)).toInt = E + 1085 := by
    rw [i_add (by rw [he, show (1085 : Int32).toInt = 1085 from rfl]; omega) (by rw [he, show (1085 : Int32).toInt = 1085 from rfl]; omega), he, show (1085 : Int32).toInt = 1085 from rfl]
  have h2047 : (2047 : Int32).toInt = 2047 := by decide
  simp only [jlet]
  have hfit := FP.Core.roundRatio_fits FP.Core.good_b64 s M Nat.one_pos E
  by_cases c1 : E + 1085 < 2047
  · rw [if_pos (by rw [i_lt, hx, h2047]; exact c1)]
    by_cases c2 : E + 1085 ≤ 0
    · rw [if_pos (by rw [i_le, hx, t_0]; exact c2)]
      have hg : ((11 : Int32) - (e + (1085 : Int32))).toInt = ((11 - (E + 1085)).toNat : Int) := by
        rw [i_sub (by rw [hx, show (11 : Int32).toInt = 11 from rfl]; omega) (by rw [hx, show (11 : Int32).toInt = 11 from rfl]; omega), hx, show (11 : Int32).toInt = 11 from rfl]; omega
      obtain ⟨r, g1, g2⟩ := r88 hs hm h63 hx (by omega) hg (by omega) (by omega)
      refine ⟨r, g1, ?_⟩
      have hr := rr_norm (s := s) (q := -1074) (e := E) h62 h63 (by omega) (by omega) (.inl rfl)
      rw [show ((-1074) - E).toNat = (11 - (E + 1085)).toNat by omega] at hr
      refine dv_of_enc ?_ hfit
      have hG : 2 ^ 11 ≤ 2 ^ (11 - (E + 1085)).toNat := Nat.pow_le_pow_right (by decide) (by omega)
      have hle : FP.Core.nearest M (2 ^ (11 - (E + 1085)).toNat) ≤ 4503599627370496 := FP.Core.nearest_le (Nat.two_pow_pos _) (by have := Nat.mul_le_mul_left 4503599627370496 hG; omega)
      rw [hr, enc_settle (by omega) (by omega) (by omega) (.inl rfl), g2, if_neg (by omega)]
      omega
    · rw [if_neg (by rw [i_le, hx, t_0]; exact c2)]
      obtain ⟨r, g1, g2⟩ := r88 hs hm h63 hx (by omega) (show (10 : Int32).toInt = (10 : Nat) by decide) (by omega) (by omega)
      refine ⟨r, g1, ?_⟩
      have hr := rr_norm (s := s) (q := E + 10) (e := E) h62 h63 (by omega) (by omega) (.inr rfl)
      rw [show (E + 10 - E).toNat = 10 by omega] at hr
      refine dv_of_enc ?_ hfit
      have hle : FP.Core.nearest M (2 ^ 10) ≤ 9007199254740992 := FP.Core.nearest_le (Nat.two_pow_pos _) (by omega)
      have hge : 4503599627370496 ≤ FP.Core.nearest M (2 ^ 10) := FP.Core.nearest_ge (Nat.two_pow_pos _) (by omega)
      rw [hr, enc_settle hle (by omega) (by omega) (.inr hge), g2, if_pos (by omega), show (E + 1085 - 1).toNat = (E + 10 + 1074).toNat by omega]
  · rw [if_neg (by rw [i_lt, hx, h2047]; exact c1)]
    refine ⟨_, rfl, ?_⟩
    have hr := rr_norm (s := s) (q := E + 10) (e := E) h62 h63 (by omega) (by omega) (.inr rfl)
    refine dv_of_enc ?_ hfit
    rw [hr, settle_inf (by omega), ub_or_sgn (sg_ub hs) (by decide), hs]; rfl
theorem norm_all {s : Bool} {sg : Int64} (hs : ub sg = s.toNat * 9223372036854775808) : ∀ (t : Nat), t ≤ 5 → ∀ (n : Nat) (m : Int64) (e : Int32) (M : Nat) (E : Int), ub m = M → M < 9223372036854775808 → 9223372036854775808 ≤ M * 2 ^ (2 * 2 ^ t) → e.toInt = E → -4500 + (2 * 2 ^ t : Nat) ≤ E → E ≤ 4500 →
    ∃ r, f_X5_rounded_10 (n + t + 2) sg m e (nI (2 ^ t)) = some r ∧ dv r = FP.Core.roundRatio FP.Core.b64 s M 1 E := by
  intro t
  induction t with
  | zero =>
    intro _ n m e M E hm h63 h1 he hE1 hE2
    obtain ⟨m', e', j, f1, f2, f3, f4, f5, f6⟩ := norm_step (sg := sg) (b := 1) (by decide) (by decide) hm h63 h1 he (by omega) (n + 1)
    obtain ⟨r, g1, g2⟩ := round_end hs f2 (by omega) f5 f3 (by omega) n
    exact ⟨r, by rw [show n + 0 + 2 = n + 1 + 1 from rfl, show nI (2 ^ 0) = nI 1 from rfl, f1]; exact g1, by rw [g2, ← rr_shift]⟩
  | succ t ih =>
    intro ht n m e M E hm h63 h1 he hE1 hE2
    have hb : 2 ^ (t + 1) = 2 * 2 ^ t := by rw [Nat.pow_succ]; omega
    have hb2 : 2 ^ t ≤ 2 ^ 4 := Nat.pow_le_pow_right (by decide) (by omega)
    have hb3 := Nat.two_pow_pos t
    obtain ⟨m', e', j, f1, f2, f3, f4, f5, f6⟩ := norm_step (sg := sg) (b := 2 ^ (t + 1)) (by omega) (by omega) hm h63 h1 he (by omega) (n + t + 2)
    rw [show 2 ^ (t + 1) / 2 = 2 ^ t by omega] at f1
    rw [hb] at f6
    obtain ⟨r, g1, g2⟩ := ih (by omega) n m' e' _ _ f2 f5 f6 f3 (by omega) (by omega)
    exact ⟨r, by rw [show n + (t + 1) + 2 = n + t + 2 + 1 by omega, f1]; exact g1, by rw [g2, ← rr_shift]⟩
theorem rounded_ok {s : Bool} {sg m : Int64} {e : Int32} {M : Nat} {E : Int} (hs : ub sg = s.toNat * 9223372036854775808) (hm : ub m = M) (h0 : 0 < M) (h63 : M < 9223372036854775808) (he : e.toInt = E) (hE : -4400 ≤ E ∧ E ≤ 4400) :
    ∃ r, f_X5_rounded sg e m = some r ∧ dv r = FP.Core.roundRatio FP.Core.b64 s M 1 E := by
  unfold f_X5_rounded
  have h := norm_all hs 5 (by decide) 1099993 m e M E hm h63 (by omega) he (by omega) (by omega)
  exact h

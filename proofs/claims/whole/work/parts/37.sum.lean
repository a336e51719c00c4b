/-! PURE: the class's sum of doubles -/
theorem exp_le {Ma Mb ca cb : Nat} {ea eb qa qb : Int} (h1 : Ma < 9007199254740992) (h2 : 4503599627370496 ≤ Mb) (ha : Ma = ca * 2 ^ (qa - ea).toNat) (hb : Mb = cb * 2 ^ (qb - eb).toNat) (la : ea ≤ qa) (lb : eb ≤ qb) (ea1 : -1126 ≤ ea) (eb1 : -1126 ≤ eb) (qa1 : -1074 ≤ qa) (qb1 : -1074 ≤ qb) (h : cb * 2 ^ (qb + 1074).toNat ≤ ca * 2 ^ (qa + 1074).toNat) : eb ≤ ea := by
  refine Int.not_lt.mp (fun hlt => ?_)
  have key : ∀ (c : Nat) (q e : Int), e ≤ q → -1126 ≤ e → -1074 ≤ q → c * 2 ^ (q - e).toNat * 2 ^ (e + 1126).toNat = c * 2 ^ (q + 1074).toNat * 2 ^ 52 := by
    intro c q e x1 x2 x3
    rw [Nat.mul_assoc, Nat.mul_assoc, ← Nat.pow_add, ← Nat.pow_add, show (q - e).toNat + (e + 1126).toNat = (q + 1074).toNat + 52 by omega]
  have k1 := key ca qa ea la ea1 qa1
  have k2 := key cb qb eb lb eb1 qb1
  rw [← ha] at k1
  rw [← hb] at k2
  have h3 : Mb * 2 ^ (eb + 1126).toNat ≤ Ma * 2 ^ (ea + 1126).toNat := by rw [k1, k2]; exact Nat.mul_le_mul_right _ h
  have h4 : 2 ^ (ea + 1126).toNat * 2 ≤ 2 ^ (eb + 1126).toNat := by
    rw [← Nat.pow_succ]; exact Nat.pow_le_pow_right (by decide) (by omega)
  have h5 : 4503599627370496 * (2 ^ (ea + 1126).toNat * 2) ≤ Mb * 2 ^ (eb + 1126).toNat := Nat.mul_le_mul h2 h4
  have h6 : Ma * 2 ^ (ea + 1126).toNat < 9007199254740992 * 2 ^ (ea + 1126).toNat := Nat.mul_lt_mul_of_pos_right h1 (Nat.two_pow_pos _)
  omega
theorem mg_units {x : Int64} {s : Bool} {c : Nat} {q : Int} (h : dv x = .fin s c q) : c * 2 ^ (q + 1074).toNat = FP.Core.unitsOf FP.Core.b64 (mg x) := by
  have hn : FP.Core.val64 x.toUInt64 ≠ .nan := by
    show dv x ≠ .nan
    rw [h]; exact FP.Core.Datum.noConfusion
  have h1 := FP.Core.zmag_bits hn
  rw [show FP.Core.val64 x.toUInt64 = _ from h] at h1
  rw [mg_u, ← h1]
  show _ = c * 2 ^ (q - FP.Core.b64.qmin).toNat
  rw [b_q, show q - (-1074) = q + 1074 by omega]
theorem sum_shift {s : Bool} {X Y G : Nat} {μ ea eb : Int} (hG : ea - eb = G) (hμ : eb ≤ μ) (h : X * 2 ^ (μ - eb).toNat = Y) : FP.Core.roundRatio FP.Core.b64 s X 1 μ = FP.Core.roundRatio FP.Core.b64 s (Y * 2 ^ 9) (2 ^ G) (ea - 9) := by
  refine FP.Core.roundRatio_congr Nat.one_pos (Nat.two_pow_pos _) ?_
  rw [← h, Nat.mul_one, Nat.mul_assoc, Nat.mul_assoc, Nat.mul_assoc, ← Nat.pow_add, ← Nat.pow_add, ← Nat.pow_add]
  congr 2
  omega
theorem signed_same (s : Bool) (A B : Nat) : FP.Core.signed s A + FP.Core.signed s B = FP.Core.signed s (A + B) := by
  cases s <;> simp [FP.Core.signed] <;> omega
theorem signed_diff (s : Bool) {A B : Nat} (h : B ≤ A) : FP.Core.signed s A + FP.Core.signed (!s) B = FP.Core.signed s (A - B) := by
  cases s <;> simp [FP.Core.signed] <;> omega
theorem round_signed {s t : Bool} {X : Nat} {μ : Int} : FP.Core.round FP.Core.b64 (.fin (FP.Core.sumSign s t (FP.Core.signed s X)) (FP.Core.signed s X).natAbs μ) = FP.Core.roundRatio FP.Core.b64 (if X = 0 then (s && t) else s) X 1 μ := by
  rw [FP.Core.natAbs_signed]
  show FP.Core.roundRatio FP.Core.b64 _ X 1 μ = _
  unfold FP.Core.sumSign
  by_cases h : X = 0
  · rw [if_pos h, if_pos (by rw [FP.Core.signed_eq_zero]; exact h)]
  · rw [if_neg h, if_neg (by rw [FP.Core.signed_eq_zero]; exact h), FP.Core.signed_lt_zero s (by omega)]
theorem rr_zero (s : Bool) (B : Nat) (e : Int) : FP.Core.roundRatio FP.Core.b64 s 0 B e = .fin s 0 (-1074) := by
  unfold FP.Core.roundRatio
  rw [if_pos rfl, b_q]
theorem dv_z0 : dv 0 = .fin false 0 (-1074) := by
  rw [dv_zero (by decide)]; rfl
theorem plus_250 {a t : Int64} {e : Int32} {M : Nat} {E : Int} (he : f_X5_exponent a = some e) (hE : e.toInt = E) (hE2 : -1126 ≤ E ∧ E ≤ 971) (ht : ub t = M) (hM : M < 9223372036854775808) :
    ∃ r, f_X5_plus_250 a t = some r ∧ dv r = FP.Core.roundRatio FP.Core.b64 (if M = 0 then false else dS a) M 1 (E - 9) := by
  unfold f_X5_plus_250
  have h9 : (9 : Int32).toInt = 9 := by decide
  have hz : t = (0 : Int64) ↔ M = 0 := by rw [ub_inj, ht]; exact Iff.rfl
  by_cases c : M = 0
  · rw [if_pos (hz.mpr c), if_pos c, c, rr_zero]
    exact ⟨_, rfl, dv_z0⟩
  · rw [if_neg (fun z => c (hz.mp z)), if_neg c, he]
    obtain ⟨r, g1, g2⟩ := rounded_ok (e := e - (9 : Int32)) (ub_sg a) ht (by omega) hM (by rw [i_sub (by rw [hE, h9]; omega) (by rw [hE, h9]; omega), hE, h9]) (by omega)
    refine ⟨r, ?_, g2⟩
    simp only [Option.bind_some, g1]
theorem plus_232 {a k l : Int64} {e : Int32} {Ma Mb G L : Nat} {E : Int} {t0 : Int32} {same : Bool} (he : f_X5_exponent a = some e) (hE : e.toInt = E) (hE2 : -1126 ≤ E ∧ E ≤ 971) (hk : ub k = Ma * 512) (hl : ub l = L) (ht : t0 = if same then 1 else 0) (hMa : 4503599627370496 ≤ Ma) (hMa2 : Ma < 9007199254740992) (hMb : Mb < 9007199254740992) (hle : Mb ≤ Ma * 2 ^ G)
    (hL : L * 2 ^ G = Mb * 512 ∨ (10 ≤ G ∧ L % 2 = 1 ∧ L * 2 ^ G < Mb * 512 + 2 ^ G ∧ Mb * 512 < L * 2 ^ G + 2 ^ G)) :
    ∃ r, f_X5_plus_232 a t0 k l = some r ∧ dv r = FP.Core.roundRatio FP.Core.b64 (if (if same then Ma * 2 ^ G + Mb else Ma * 2 ^ G - Mb) = 0 then false else dS a) ((if same then Ma * 2 ^ G + Mb else Ma * 2 ^ G - Mb) * 2 ^ 9) (2 ^ G) (E - 9) := by
  have hD := Nat.two_pow_pos G
  have hLs : L < 4611686018427387904 := by
    rcases hL with h | ⟨hG, -, h, -⟩
    · have : L * 1 ≤ L * 2 ^ G := Nat.mul_le_mul_left L hD
      omega
    · have h1 : 2 ^ 10 ≤ 2 ^ G := Nat.pow_le_pow_right (by decide) hG
      refine Decidable.byContradiction (fun z => ?_)
      have h2 : (4611686018427387903 + 1) * 2 ^ G ≤ L * 2 ^ G := Nat.mul_le_mul_right _ (by omega)
      rw [Nat.add_mul, Nat.one_mul] at h2
      have h3 : 4611686018427387903 * 2 ^ 10 ≤ 4611686018427387903 * 2 ^ G := Nat.mul_le_mul_left _ h1
      omega
  have hbig : 10 ≤ G → L * 2 ^ G < Mb * 512 + 2 ^ G → L ≤ 4503599627370496 := by
    intro hG h
    have h1 : 2 ^ 10 ≤ 2 ^ G := Nat.pow_le_pow_right (by decide) hG
    refine Decidable.byContradiction (fun z => ?_)
    have h2 : (4503599627370496 + 1) * 2 ^ G ≤ L * 2 ^ G := Nat.mul_le_mul_right _ (by omega)
    rw [Nat.add_mul, Nat.one_mul] at h2
    have h3 : 4503599627370496 * 2 ^ 10 ≤ 4503599627370496 * 2 ^ G := Nat.mul_le_mul_left _ h1
    omega
  have hdist : Ma * 2 ^ G * 2 ^ 9 = Ma * 512 * 2 ^ G := by rw [Nat.mul_assoc, Nat.mul_assoc, Nat.mul_comm (2 ^ G)]
  unfold f_X5_plus_232
  cases same with
  | true =>
    simp only [if_true] at ht
    subst ht
    rw [if_neg (by decide)]
    have hm : ub (k + l) = Ma * 512 + L := by rw [ub_add, hk, hl]; omega
    obtain ⟨r, g1, g2⟩ := plus_250 he hE hE2 hm (by omega)
    refine ⟨r, g1, ?_⟩
    simp only [if_true]
    rw [if_neg (by omega)] at g2
    rw [g2, if_neg (by have := Nat.mul_le_mul hMa hD; omega)]
    refine (st_round hD ?_).symm
    rw [Nat.add_mul, Nat.add_mul, hdist]
    rcases hL with h | ⟨h1, h2, h3, h4⟩
    · left; omega
    · right; exact ⟨by omega, by omega, by omega, by omega⟩
  | false =>
    simp only [Bool.false_eq_true, if_false] at ht
    subst ht
    rw [if_pos rfl]
    have hX : Mb * 512 ≤ Ma * 512 * 2 ^ G := by
      rw [← hdist]; exact Nat.mul_le_mul_right 512 hle
    have hLk : L ≤ Ma * 512 := by
      rcases hL with h | ⟨hG, -, h, -⟩
      · exact Nat.le_of_mul_le_mul_right (by omega) hD
      · have := hbig hG h; omega
    have hm : ub (k - l) = Ma * 512 - L := by rw [ub_sub, hk, hl]; omega
    obtain ⟨r, g1, g2⟩ := plus_250 he hE hE2 hm (by omega)
    refine ⟨r, g1, ?_⟩
    simp only [Bool.false_eq_true, if_false]
    have hsub : (Ma * 512 - L) * 2 ^ G = Ma * 512 * 2 ^ G - L * 2 ^ G := Nat.sub_mul _ _ _
    have hsub2 : (Ma * 2 ^ G - Mb) * 2 ^ 9 = Ma * 512 * 2 ^ G - Mb * 512 := by rw [Nat.sub_mul, hdist]
    have hz : Ma * 512 - L = 0 ↔ Ma * 2 ^ G - Mb = 0 := by
      rcases hL with h | ⟨hG, -, h, -⟩
      · constructor
        · intro z
          have : Ma * 512 = L := Nat.le_antisymm (Nat.le_of_sub_eq_zero z) hLk
          rw [this, h] at hdist
          have : Ma * 2 ^ G * 2 ^ 9 = Mb * 512 := hdist
          omega
        · intro z
          have e1 : Ma * 2 ^ G = Mb := by omega
          rw [e1] at hdist
          have : Ma * 512 * 2 ^ G ≤ L * 2 ^ G := by omega
          have := Nat.le_of_mul_le_mul_right this hD
          omega
      · have h1 := hbig hG h
        have h2 : 2 ^ 10 ≤ 2 ^ G := Nat.pow_le_pow_right (by decide) hG
        have h3 : Ma * 2 ^ 10 ≤ Ma * 2 ^ G := Nat.mul_le_mul_left _ h2
        omega
    rw [g2]
    have hif : (if Ma * 512 - L = 0 then false else dS a) = (if Ma * 2 ^ G - Mb = 0 then false else dS a) := by
      by_cases c : Ma * 512 - L = 0
      · rw [if_pos c, if_pos (hz.mp c)]
      · rw [if_neg c, if_neg (fun z => c (hz.mpr z))]
    rw [hif]
    refine (st_round hD ?_).symm
    rw [hsub, hsub2]
    rcases hL with h | ⟨h1, h2, h3, h4⟩
    · left; omega
    · right
      have := hbig h1 h3
      have hmul : L * 2 ^ G ≤ Ma * 512 * 2 ^ G := Nat.mul_le_mul_right _ hLk
      exact ⟨by omega, by omega, by omega, by omega⟩
theorem t_9 : (9 : Int32).toInt = (9 : Nat) := by decide
theorem plus_gen {a b : Int64} (hb0 : mg b ≠ 0) (hab : mg b ≤ mg a) (ha : mg a < 9218868437227405312) {t0 : Int32} (ht : t0 = if (dS a == dS b) then 1 else 0) : ∃ r, f_X5_plus_78 a b t0 = some r ∧ dv r = FP.Core.round FP.Core.b64 (FP.Core.exactSum (dv a) (dv b)) := by
  obtain ⟨ma, ea, ca, qa, a1, a2, a3, a4, a5, a6, a7, a8, a9, a10, a11, a12⟩ := mant_ok (x := a) (by omega) ha
  obtain ⟨mb, eb, cb, qb, b1, b2, b3, b4, b5, b6, b7, b8, b9, b10, b11, b12⟩ := mant_ok (x := b) hb0 (by omega)
  have hu : cb * 2 ^ (qb + 1074).toNat ≤ ca * 2 ^ (qa + 1074).toNat := by
    rw [mg_units a7, mg_units b7]; exact FP.Core.unitsOf_le_iff.mpr hab
  have hee := exp_le a4 b3 a10 b10 a9 b9 a5 b5 a11 b11 hu
  obtain ⟨G, hG⟩ : ∃ G : Nat, ea.toInt - eb.toInt = G := ⟨(ea.toInt - eb.toInt).toNat, by omega⟩
  have hg : (ea - eb).toInt = G := by rw [i_sub (by omega) (by omega)]; exact hG
  have hD := Nat.two_pow_pos G
  -- in units of 2^eb
  have hle : ub mb ≤ ub ma * 2 ^ G := by
    have key : ∀ (c : Nat) (q e : Int), e ≤ q → -1126 ≤ e → -1074 ≤ q → c * 2 ^ (q - e).toNat * 2 ^ (e + 1126).toNat = c * 2 ^ (q + 1074).toNat * 2 ^ 52 := by
      intro c q e x1 x2 x3
      rw [Nat.mul_assoc, Nat.mul_assoc, ← Nat.pow_add, ← Nat.pow_add, show (q - e).toNat + (e + 1126).toNat = (q + 1074).toNat + 52 by omega]
    have k1 := key ca qa ea.toInt a9 a5 a11
    have k2 := key cb qb eb.toInt b9 b5 b11
    rw [← a10] at k1
    rw [← b10] at k2
    refine Nat.le_of_mul_le_mul_right ?_ (Nat.two_pow_pos (eb.toInt + 1126).toNat)
    rw [Nat.mul_assoc, ← Nat.pow_add, show G + (eb.toInt + 1126).toNat = (ea.toInt + 1126).toNat by omega, k1, k2]
    exact Nat.mul_le_mul_right _ hu
  have hk : ub (ma <<< ((9 : Int32).toInt64 &&& 63)) = ub ma * 512 := by rw [ub_shl _ t_9 (by decide)]; omega
  have hl : ub (mb <<< ((9 : Int32).toInt64 &&& 63)) = ub mb * 512 := by rw [ub_shl _ t_9 (by decide)]; omega
  have hd10 : ub mb * 512 % 2 ^ G ≠ 0 → 10 ≤ G := by
    intro h
    refine Decidable.byContradiction (fun z => h ?_)
    obtain ⟨w, hw⟩ : ∃ w, 9 = G + w := ⟨9 - G, by omega⟩
    have : (512 : Nat) = 2 ^ G * 2 ^ w := by rw [← Nat.pow_add, ← hw]
    rw [this, ← Nat.mul_assoc, Nat.mul_comm (ub mb), Nat.mul_assoc]
    exact Nat.mul_mod_right _ _
  -- the exact sum
  have hμ : eb.toInt ≤ min qa qb := by omega
  have e1 : ca * 2 ^ (qa - min qa qb).toNat * 2 ^ (min qa qb - eb.toInt).toNat = ub ma * 2 ^ G := by
    rw [a10, Nat.mul_assoc, Nat.mul_assoc, ← Nat.pow_add, ← Nat.pow_add]; congr 2; omega
  have e2 : cb * 2 ^ (qb - min qa qb).toNat * 2 ^ (min qa qb - eb.toInt).toNat = ub mb := by
    rw [b10, Nat.mul_assoc, ← Nat.pow_add]; congr 2; omega
  have hAB : cb * 2 ^ (qb - min qa qb).toNat ≤ ca * 2 ^ (qa - min qa qb).toNat := by
    refine Nat.le_of_mul_le_mul_right ?_ (Nat.two_pow_pos (min qa qb - eb.toInt).toNat)
    rw [e1, e2]; exact hle
  have hex : FP.Core.round FP.Core.b64 (FP.Core.exactSum (dv a) (dv b)) = FP.Core.roundRatio FP.Core.b64 (if (if (dS a == dS b) then ub ma * 2 ^ G + ub mb else ub ma * 2 ^ G - ub mb) = 0 then false else dS a) ((if (dS a == dS b) then ub ma * 2 ^ G + ub mb else ub ma * 2 ^ G - ub mb) * 2 ^ 9) (2 ^ G) (ea.toInt - 9) := by
    rw [a7, b7]
    show FP.Core.round FP.Core.b64 (.fin (FP.Core.sumSign (dS a) (dS b) (FP.Core.signed (dS a) (ca * 2 ^ (qa - min qa qb).toNat) + FP.Core.signed (dS b) (cb * 2 ^ (qb - min qa qb).toNat))) (FP.Core.signed (dS a) (ca * 2 ^ (qa - min qa qb).toNat) + FP.Core.signed (dS b) (cb * 2 ^ (qb - min qa qb).toNat)).natAbs (min qa qb)) = _
    generalize ca * 2 ^ (qa - min qa qb).toNat = A at *
    generalize cb * 2 ^ (qb - min qa qb).toNat = B at *
    generalize hp : 2 ^ (min qa qb - eb.toInt).toNat = P at *
    have hP : 0 < P := by rw [← hp]; exact Nat.two_pow_pos _
    by_cases c : dS a = dS b
    · rw [← c, signed_same, round_signed]
      simp only [beq_self_eq_true, if_true]
      have hA0 : A + B ≠ 0 := by
        intro z
        have : A = 0 := by omega
        rw [this, Nat.zero_mul] at e1
        have := Nat.mul_le_mul a3 hD
        omega
      rw [if_neg hA0, if_neg (by rw [← e1, ← e2, ← Nat.add_mul]; exact fun z => hA0 (by rcases Nat.mul_eq_zero.mp z with q | q; exact q; omega))]
      exact sum_shift hG hμ (by rw [hp, Nat.add_mul, e1, e2])
    · have hb : dS b = !dS a := by revert c; cases dS a <;> cases dS b <;> decide
      rw [hb, signed_diff _ hAB, round_signed]
      have : (dS a == !dS a) = false := by cases dS a <;> rfl
      rw [this]
      simp only [Bool.false_eq_true, if_false, Bool.and_not_self]
      have hsub : (A - B) * P = ub ma * 2 ^ G - ub mb := by rw [Nat.sub_mul, e1, e2]
      have hz : A - B = 0 ↔ ub ma * 2 ^ G - ub mb = 0 := by
        rw [← hsub]
        constructor
        · intro z; rw [z, Nat.zero_mul]
        · intro z; rcases Nat.mul_eq_zero.mp z with q | q
          · exact q
          · omega
      have hif : (if A - B = 0 then false else dS a) = (if ub ma * 2 ^ G - ub mb = 0 then false else dS a) := by
        by_cases c : A - B = 0
        · rw [if_pos c, if_pos (hz.mp c)]
        · rw [if_neg c, if_neg (fun z => c (hz.mpr z))]
      rw [hif]
      exact sum_shift hG hμ (by rw [hp, hsub])
  rw [hex]
  unfold f_X5_plus_78
  rw [if_neg (fun z => by rw [mag_i] at z; omega), if_neg (fun z => hb0 (mag_0.mp z))]
  simp only [a1, a2, b1, b2, Option.bind_some, jlet]
  have t62 : (62 : Int32).toInt = 62 := by decide
  by_cases c : G ≤ 62
  · rw [if_pos (by rw [i_le, hg, t62]; omega)]
    have hp : 2 ^ G ≤ 2 ^ 62 := Nat.pow_le_pow_right (by decide) c
    have y1 : ub ((1 : Int64) <<< ((ea - eb).toInt64 &&& 63)) = 2 ^ G := by
      rw [ub_shl _ hg (by omega), show ub (1 : Int64) = 1 from rfl]; omega
    have y2 : ub (((1 : Int64) <<< ((ea - eb).toInt64 &&& 63)) - (1 : Int64)) = 2 ^ G - 1 := by
      rw [ub_sub, y1, show ub (1 : Int64) = 1 from rfl]; omega
    have x5 : ub ((mb <<< ((9 : Int32).toInt64 &&& 63)) &&& (((1 : Int64) <<< ((ea - eb).toInt64 &&& 63)) - (1 : Int64))) = ub mb * 512 % 2 ^ G := by
      rw [ub_and, y2, hl, Nat.and_two_pow_sub_one_eq_mod]
    have x6 := ub_shr (mb <<< ((9 : Int32).toInt64 &&& 63)) hg (by omega)
    rw [hl] at x6
    have hgo : ∀ (t1 : Int32) (w : Nat), ub t1.toInt64 = w → (w = if ub mb * 512 % 2 ^ G = 0 then 0 else 1) → ∃ r, f_X5_plus_228 a t0 (ma <<< ((9 : Int32).toInt64 &&& 63)) (((mb <<< ((9 : Int32).toInt64 &&& 63)).toUInt64 >>> ((ea - eb).toInt64.toUInt64 &&& Int64.toUInt64 63)).toInt64) t1 = some r ∧ dv r = FP.Core.roundRatio FP.Core.b64 (if (if (dS a == dS b) then ub ma * 2 ^ G + ub mb else ub ma * 2 ^ G - ub mb) = 0 then false else dS a) ((if (dS a == dS b) then ub ma * 2 ^ G + ub mb else ub ma * 2 ^ G - ub mb) * 2 ^ 9) (2 ^ G) (ea.toInt - 9) := by
      intro t1 w hw hw2
      unfold f_X5_plus_228 jlet
      refine plus_232 (L := ub mb * 512 / 2 ^ G ||| w) a2 rfl ⟨a5, a6⟩ hk (by rw [ub_or, x6, hw]) ht a3 a4 b4 hle ?_
      rcases n_sticky hD _ (by rw [hw2] : (ub mb * 512 / 2 ^ G ||| w) = _) with h | ⟨h1, h2, h3, h4⟩
      · exact .inl h
      · exact .inr ⟨hd10 h1, h2, h3, h4⟩
    have hz : ((mb <<< ((9 : Int32).toInt64 &&& 63)) &&& (((1 : Int64) <<< ((ea - eb).toInt64 &&& 63)) - (1 : Int64))) = (0 : Int64) ↔ ub mb * 512 % 2 ^ G = 0 := by
      rw [ub_inj, x5]; exact Iff.rfl
    by_cases d : ub mb * 512 % 2 ^ G = 0
    · rw [if_pos (hz.mpr d)]
      exact hgo 0 0 (by decide) (by rw [if_pos d])
    · rw [if_neg (fun z => d (hz.mp z))]
      exact hgo 1 1 (by decide) (by rw [if_neg d])
  · rw [if_neg (by rw [i_le, hg, t62]; omega)]
    have hp : 2 ^ 63 ≤ 2 ^ G := Nat.pow_le_pow_right (by decide) (by omega)
    exact plus_232 (L := 1) a2 rfl ⟨a5, a6⟩ hk (by decide) ht a3 a4 b4 hle (.inr ⟨by omega, by decide, by omega, by omega⟩)
theorem dv_nn : dv 9221120237041090560 = .nan := by rw [dv_nan]; decide
theorem plus_61 {a b : Int64} (hab : mg b ≤ mg a) (ha : mg a ≤ 9218868437227405312) : ∃ r, f_X5_plus_61 a b = some r ∧ (r = 9221120237041090560 ∨ dv r ≠ .nan) ∧ dv r = FP.Core.round FP.Core.b64 (FP.Core.exactSum (dv a) (dv b)) := by
  have h78 : ∀ t0 : Int32, (t0 = if (dS a == dS b) then 1 else 0) → ∃ r, f_X5_plus_78 a b t0 = some r ∧ (r = 9221120237041090560 ∨ dv r ≠ .nan) ∧ dv r = FP.Core.round FP.Core.b64 (FP.Core.exactSum (dv a) (dv b)) := by
    intro t0 ht
    by_cases c1 : mg a = 9218868437227405312
    · unfold f_X5_plus_78
      rw [if_pos (mag_i.mpr c1), dv_inf c1]
      by_cases c2 : mg b = 9218868437227405312
      · rw [if_pos (mag_i.mpr c2), dv_inf c2]
        by_cases c3 : dS a = dS b
        · rw [if_neg (by rw [ht, c3]; simp)]
          refine ⟨a, rfl, .inr ?_, ?_⟩
          · rw [dv_inf c1]; exact FP.Core.Datum.noConfusion
          · rw [dv_inf c1, c3]; simp [FP.Core.exactSum, FP.Core.round]
        · rw [if_pos (by rw [ht]; simp [c3])]
          refine ⟨_, rfl, .inl rfl, ?_⟩
          rw [dv_nn]; simp [FP.Core.exactSum, FP.Core.round, c3]
      · rw [if_neg (fun z => c2 (mag_i.mp z))]
        obtain ⟨c, q, h, -⟩ := dv_fin (x := b) (by omega)
        refine ⟨a, rfl, .inr ?_, ?_⟩
        · rw [dv_inf c1]; exact FP.Core.Datum.noConfusion
        · rw [dv_inf c1, h]; rfl
    · by_cases c2 : mg b = 0
      · unfold f_X5_plus_78
        rw [if_neg (fun z => c1 (mag_i.mp z)), if_pos (mag_0.mpr c2), dv_zero c2]
        by_cases c3 : mg a = 0
        · rw [if_pos (mag_0.mpr c3), dv_zero c3]
          by_cases c4 : dS a = dS b
          · rw [if_neg (by rw [ht, c4]; simp)]
            refine ⟨a, rfl, .inr ?_, ?_⟩
            · rw [dv_zero c3]; exact FP.Core.Datum.noConfusion
            · rw [dv_zero c3, ← c4]
              show _ = FP.Core.round FP.Core.b64 (.fin (FP.Core.sumSign (dS a) (dS a) (FP.Core.signed (dS a) (0 * _) + FP.Core.signed (dS a) (0 * _))) _ _)
              rw [signed_same]
              simp [FP.Core.sumUnits, FP.Core.inUnits, FP.Core.signed, FP.Core.sumSign, FP.Core.round, FP.Core.roundRatio, b_q]
          · rw [if_pos (by rw [ht]; simp [c4])]
            refine ⟨_, rfl, .inr ?_, ?_⟩
            · rw [dv_z0]; exact FP.Core.Datum.noConfusion
            · rw [dv_z0]
              have hb : (dS a && dS b) = false := by revert c4; cases dS a <;> cases dS b <;> decide
              simp [FP.Core.exactSum, FP.Core.sumUnits, FP.Core.inUnits, FP.Core.signed, FP.Core.sumSign, FP.Core.round, FP.Core.roundRatio, b_q, hb]
        · rw [if_neg (fun z => c3 (mag_0.mp z))]
          obtain ⟨c, q, h, h0, -⟩ := dv_fin (x := a) (by omega)
          refine ⟨a, rfl, .inr ?_, ?_⟩
          · rw [h]; exact FP.Core.Datum.noConfusion
          · have := FP.Core.round_sum_zero FP.Core.good_b64 (dv_fits a) (dS b) (fun s q' e => by rw [h] at e; injection e with e1 e2 e3; omega)
            rw [b_q] at this
            exact this.symm
      · obtain ⟨r, g1, g2⟩ := plus_gen c2 hab (by omega) ht
        refine ⟨r, g1, .inr ?_, g2⟩
        obtain ⟨c, q, h, -⟩ := dv_fin (x := a) (by omega)
        obtain ⟨c', q', h', -⟩ := dv_fin (x := b) (by omega)
        rw [g2, h, h']
        exact FP.Core.roundRatio_ne_nan _ _ _ _ _
  unfold f_X5_plus_61
  by_cases c : dS a = dS b
  · rw [if_neg (fun z => xor_ng.mp z c)]; exact h78 1 (by rw [c]; simp)
  · rw [if_pos (xor_ng.mpr c)]; exact h78 0 (by simp [c])
theorem plus_ok (x y : Int64) : ∃ r, f_X5_plus x y = some r ∧ (r = 9221120237041090560 ∨ dv r ≠ .nan) ∧ dv r = FP.Core.round FP.Core.b64 (FP.Core.exactSum (dv x) (dv y)) := by
  unfold f_X5_plus
  rw [isNot_ok, isNot_ok]
  by_cases hx : mg x ≤ 9218868437227405312
  · by_cases hy : mg y ≤ 9218868437227405312
    · rw [if_pos hx, if_pos hy, if_pos rfl, if_pos rfl]
      unfold f_X5_plus_37 f_X5_plus_49
      by_cases c : mg x < mg y
      · rw [if_pos (mag_lt.mpr c), if_pos rfl, if_pos rfl, FP.Core.exactSum_comm]
        exact plus_61 (by omega) hy
      · rw [if_neg (fun z => c (mag_lt.mp z)), if_neg (by decide), if_neg (by decide)]
        exact plus_61 (by omega) hx
    · rw [if_pos hx, if_neg hy, if_pos rfl, if_neg (by decide)]
      refine ⟨_, rfl, .inl rfl, ?_⟩
      rw [dv_nn, (dv_nan y).mpr (by omega), FP.Core.exactSum_comm]; rfl
  · rw [if_neg hx, if_neg (by decide)]
    refine ⟨_, rfl, .inl rfl, ?_⟩
    rw [dv_nn, (dv_nan x).mpr (by omega)]; rfl

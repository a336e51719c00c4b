/-! PURE: doubles as bits: what they stand for; rounding -/
theorem b_p : FP.Core.b64.p = 53 := rfl
theorem b_t : FP.Core.b64.tails = 4503599627370496 := by decide
theorem b_e : FP.Core.b64.exps = 2048 := by decide
theorem b_q : FP.Core.b64.qmin = -1074 := by decide
theorem b_Q : FP.Core.b64.qmax = 971 := by decide
theorem b_m : FP.Core.b64.emax = 1023 := by decide
def dS (x : Int64) : Bool := decide (9223372036854775808 ≤ ub x)
/-- the datum of a double's bits -/
def dv (x : Int64) : FP.Core.Datum := FP.Core.val64 x.toUInt64
theorem dv_eq (x : Int64) : dv x = if ub x / 4503599627370496 % 2048 = 2047 then (if ub x % 4503599627370496 = 0 then .inf (dS x) else .nan) else if ub x / 4503599627370496 % 2048 = 0 then .fin (dS x) (ub x % 4503599627370496) (-1074) else .fin (dS x) (4503599627370496 + ub x % 4503599627370496) ((ub x / 4503599627370496 % 2048 : Nat) - 1075) := by
  have hs : FP.Core.fieldS FP.Core.b64 (ub x) = dS x := by
    unfold FP.Core.fieldS dS
    rw [b_t, b_e]
    have := ub_lt x
    by_cases h : 9223372036854775808 ≤ ub x
    · rw [show ub x / 4503599627370496 / 2048 % 2 = 1 by omega]; simp [h]
    · rw [show ub x / 4503599627370496 / 2048 % 2 = 0 by omega]; simp [h]
  unfold dv FP.Core.val64
  show FP.Core.decode FP.Core.b64 (ub x) = _
  unfold FP.Core.decode
  rw [hs]
  unfold FP.Core.fieldE FP.Core.fieldT
  rw [b_t, b_e, b_q]
  simp only [show (2048 : Nat) - 1 = 2047 from rfl]
  split
  · rfl
  · split
    · rfl
    · congr 1; omega
theorem dv_fits (x : Int64) : FP.Core.fits FP.Core.b64 (dv x) := FP.Core.val64_fits _
theorem dv_inj {x : Int64} {d : UInt64} (h : FP.Core.val64 d = dv x) (hn : dv x ≠ .nan) : d = x.toUInt64 := (FP.Core.val64_inj hn h.symm).symm
theorem near_st {A B m k : Nat} (hB : 0 < B) (hk : 2 ≤ k) (ho : m % 2 = 1) (h1 : m * B < A + B) (h2 : A < m * B + B) : FP.Core.nearest A (B * 2 ^ k) = FP.Core.nearest m (2 ^ k) := by
  obtain ⟨j, rfl⟩ : ∃ j, k = j + 2 := ⟨k - 2, by omega⟩
  have hD : 2 ^ (j + 2) = 4 * 2 ^ j := by rw [Nat.pow_add]; omega
  have hp : 0 < 2 ^ j := Nat.two_pow_pos j
  rw [hD]
  generalize 2 ^ j = d at hp ⊢
  have hm : 4 * d * (m / (4 * d)) + m % (4 * d) = m := Nat.div_add_mod _ _
  have hr : m % (4 * d) < 4 * d := Nat.mod_lt _ (by omega)
  have hodd : m % (4 * d) % 2 = 1 := by
    rw [Nat.mod_mod_of_dvd _ ⟨2 * d, by omega⟩]; exact ho
  unfold FP.Core.nearest
  generalize m / (4 * d) = a at *
  generalize m % (4 * d) = r at *
  subst hm
  have e1 : (4 * d * a + r) * B = B * (4 * d) * a + r * B := by rw [Nat.add_mul]; congr 1; ac_rfl
  rw [e1] at h1 h2
  have hBr : B ≤ r * B := Nat.le_mul_of_pos_left B (by omega)
  obtain ⟨R, hR⟩ : ∃ R, A = B * (4 * d) * a + R := ⟨A - B * (4 * d) * a, by omega⟩
  subst hR
  have q1 : r * B < R + B := by omega
  have q2 : R < r * B + B := by omega
  have hlt : R < B * (4 * d) := by
    have h3 : (r + 1) * B ≤ 4 * d * B := Nat.mul_le_mul_right B (by omega)
    rw [Nat.add_mul, Nat.one_mul] at h3
    rw [Nat.mul_comm B]
    omega
  rw [Nat.mul_add_div (Nat.mul_pos hB (by omega)), Nat.div_eq_of_lt hlt, Nat.mul_add_mod, Nat.mod_eq_of_lt hlt]
  have e4 : B * (4 * d) = 2 * (2 * d * B) := by rw [Nat.mul_comm B, Nat.mul_assoc, Nat.mul_assoc]; omega
  by_cases hc : r < 2 * d
  · have h3 : (r + 1) * B ≤ 2 * d * B := Nat.mul_le_mul_right B (by omega)
    rw [Nat.add_mul, Nat.one_mul] at h3
    rw [if_pos (by omega), if_pos (by omega)]
    rfl
  · have h3 : 2 * d * B + B ≤ r * B := by
      have h4 : (2 * d + 1) * B ≤ r * B := Nat.mul_le_mul_right B (by omega)
      rw [Nat.add_mul, Nat.one_mul] at h4
      exact h4
    rw [if_neg (by omega), if_pos (by omega), if_neg (by omega), if_pos (by omega)]
/-- rounding a number whose last bit tells that more was lost -/
theorem st_round {s : Bool} {A B m : Nat} {e : Int} (hB : 0 < B) (hm : m * B = A ∨ (18014398509481984 ≤ m ∧ m % 2 = 1 ∧ m * B < A + B ∧ A < m * B + B)) : FP.Core.roundRatio FP.Core.b64 s A B e = FP.Core.roundRatio FP.Core.b64 s m 1 e := by
  rcases hm with h | ⟨h0, ho, h1, h2⟩
  · subst h
    exact FP.Core.roundRatio_congr hB Nat.one_pos (by rw [Nat.mul_one])
  · have hm0 : 0 < m := by omega
    have hA0 : 0 < A := by
      have := Nat.mul_le_mul_right B h0
      have : B * 18014398509481984 ≤ m * B := by rw [Nat.mul_comm]; exact this
      have : B * 1 ≤ B * 18014398509481984 := Nat.mul_le_mul_left B (by omega)
      omega
    have b1 := FP.Core.quantum_below (f := FP.Core.b64) hm0 Nat.one_pos e
    have b2 := FP.Core.quantum_not_below (f := FP.Core.b64) hm0 Nat.one_pos e
    have b3 := FP.Core.quantum_ge FP.Core.b64 m 1 e
    generalize hq : FP.Core.quantum FP.Core.b64 m 1 e = q at b1 b2 b3
    have hk2 : 2 ≤ q - e := by
      refine Int.not_lt.mp (fun hlt => ?_)
      have : FP.Core.Below m 1 ((54 : Nat) - (0 : Nat) : Int) := FP.Core.below_mono (by rw [b_p]; omega) b1
      rw [FP.Core.below_iff] at this
      omega
    obtain ⟨k, hk⟩ : ∃ k : Nat, q - e = k := ⟨(q - e).toNat, by omega⟩
    have hk3 : 2 ≤ k := by omega
    have hpe : ∀ z, (2 ^ (k + z)) % 2 = 0 := fun z => by
      rw [show k + z = (k + z - 1) + 1 by omega, Nat.pow_succ]; omega
    have hQ : FP.Core.quantum FP.Core.b64 A B e = q := by
      refine FP.Core.quantum_eq hA0 hB b3 ?_ ?_
      · have : q - e + FP.Core.b64.p = ((k + 53 : Nat) : Int) - (0 : Nat) := by rw [b_p]; omega
        rw [this, FP.Core.below_iff] at b1 ⊢
        have h3 : (m + 1) * B ≤ 2 ^ (k + 53) * B := Nat.mul_le_mul_right B (by omega)
        rw [Nat.add_mul, Nat.one_mul] at h3
        rw [Nat.mul_comm B]
        omega
      · rcases b2 with b2 | b2
        · exact .inl b2
        · refine .inr ?_
          have : q - e + ((FP.Core.b64.p : Int) - 1) = ((k + 52 : Nat) : Int) - (0 : Nat) := by rw [b_p]; omega
          rw [this, FP.Core.below_iff] at b2 ⊢
          have hz := hpe 52
          have h3 : (2 ^ (k + 52) + 1) * B ≤ m * B := Nat.mul_le_mul_right B (by omega)
          rw [Nat.add_mul, Nat.one_mul] at h3
          rw [Nat.mul_comm B]
          omega
    unfold FP.Core.roundRatio FP.Core.roundAt
    rw [if_neg (by omega), if_neg (by omega), hQ, hq]
    unfold FP.Core.unitsNum FP.Core.unitsDen
    rw [show (e - q).toNat = 0 by omega, show (q - e).toNat = k by omega, Nat.pow_zero, Nat.mul_one, Nat.mul_one, Nat.one_mul, near_st hB hk3 ho h1 h2]
theorem enc_settle {s : Bool} {c : Nat} {q : Int} (hc : c ≤ 9007199254740992) (h1 : -1074 ≤ q) (h2 : q ≤ 971) (h3 : q = -1074 ∨ 4503599627370496 ≤ c) : FP.Core.encode FP.Core.b64 (FP.Core.settle FP.Core.b64 s c q) = s.toNat * 9223372036854775808 + (q + 1074).toNat * 4503599627370496 + c := by
  unfold FP.Core.settle FP.Core.bound
  rw [b_p, b_Q, b_t]
  by_cases hc2 : c < 2 ^ 53
  · rw [if_pos hc2, if_pos h2]
    simp only [FP.Core.encode]
    rw [b_t, b_q]
    unfold FP.Core.assemble
    rw [b_t, b_e]
    by_cases hc3 : c < 4503599627370496
    · rw [if_pos hc3]; omega
    · rw [if_neg hc3]; omega
  · rw [if_neg hc2]
    by_cases hq : q + 1 ≤ 971
    · rw [if_pos hq]
      simp only [FP.Core.encode]
      rw [b_t, b_q]
      unfold FP.Core.assemble
      rw [b_t, b_e, if_neg (by omega)]
      omega
    · rw [if_neg hq]
      simp only [FP.Core.encode]
      unfold FP.Core.assemble
      rw [b_t, b_e]
      omega
theorem settle_inf {s : Bool} {c : Nat} {q : Int} (h2 : 971 < q) : FP.Core.encode FP.Core.b64 (FP.Core.settle FP.Core.b64 s c q) = s.toNat * 9223372036854775808 + 9218868437227405312 := by
  unfold FP.Core.settle FP.Core.bound
  rw [b_Q, if_neg (show ¬ q ≤ 971 by omega), if_neg (show ¬ q + 1 ≤ 971 by omega), ite_self]
  simp only [FP.Core.encode]
  unfold FP.Core.assemble
  rw [b_t, b_e]
  omega
theorem rr_norm {s : Bool} {M : Nat} {e q : Int} (h62 : 4611686018427387904 ≤ M) (h63 : M < 9223372036854775808) (hq1 : -1074 ≤ q) (hq2 : e + 10 ≤ q) (hq : q = -1074 ∨ q = e + 10) : FP.Core.roundRatio FP.Core.b64 s M 1 e = FP.Core.settle FP.Core.b64 s (FP.Core.nearest M (2 ^ (q - e).toNat)) q := by
  have hQ : FP.Core.quantum FP.Core.b64 M 1 e = q := by
    refine FP.Core.quantum_eq (by omega) Nat.one_pos (by rw [b_q]; exact hq1) ?_ ?_
    · refine FP.Core.below_mono (a := ((63 : Nat) : Int) - (0 : Nat)) (by rw [b_p]; omega) ?_
      rw [FP.Core.below_iff]; omega
    · rcases hq with hq | hq
      · exact .inl (by rw [b_q]; exact hq)
      · refine .inr ?_
        have : q - e + ((FP.Core.b64.p : Int) - 1) = ((62 : Nat) : Int) - (0 : Nat) := by rw [b_p]; omega
        rw [this, FP.Core.below_iff]; omega
  unfold FP.Core.roundRatio FP.Core.roundAt
  rw [if_neg (by omega), hQ]
  unfold FP.Core.unitsNum FP.Core.unitsDen
  rw [show (e - q).toNat = 0 by omega, Nat.pow_zero, Nat.mul_one, Nat.one_mul]
theorem n_ne {M G : Nat} (hG : 1 ≤ G) : FP.Core.nearest M (2 ^ G) = if 2 ^ (G - 1) < M % 2 ^ G then M / 2 ^ G + 1 else if M % 2 ^ G = 2 ^ (G - 1) then (if M / 2 ^ G % 2 = 0 then M / 2 ^ G else M / 2 ^ G + 1) else M / 2 ^ G := by
  unfold FP.Core.nearest
  have h2 : 2 ^ G = 2 * 2 ^ (G - 1) := FP.Core.two_pow_pred G hG
  have hp := Nat.two_pow_pos (G - 1)
  generalize M / 2 ^ G = k
  generalize M % 2 ^ G = r
  rw [h2]
  generalize 2 ^ (G - 1) = h at *
  by_cases c1 : h < r
  · rw [if_neg (by omega), if_pos (by omega), if_pos c1]
  · rw [if_neg c1]
    by_cases c2 : r = h
    · rw [if_neg (by omega), if_neg (by omega), if_pos c2]
      split <;> omega
    · rw [if_pos (by omega), if_neg c2]

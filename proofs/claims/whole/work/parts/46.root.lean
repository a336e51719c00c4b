/-! PURE: the root of a double -/
theorem ub_sar {x : Int64} (hx : ub x < 9223372036854775808) {s : Int32} {k : Nat} (hs : s.toInt = k) (hk : k < 64) : ub (x >>> (s.toInt64 &&& 63)) = ub x / 2 ^ k := by
  have h := (sh_all ⟨k, hk⟩).2
  rw [nI_is hs (by omega), ub_bv, Int64.toBitVec_shiftRight, show ((nI k).toInt64 &&& 63).toBitVec.smod 64 = BitVec.ofNat 64 k from h]
  show (x.toBitVec.sshiftRight (BitVec.ofNat 64 k).toNat).toNat = _
  have hm : x.toBitVec.msb = false := by
    rw [BitVec.msb_eq_false_iff_two_mul_lt]
    show 2 * ub x < 2 ^ 64
    omega
  rw [BitVec.sshiftRight_eq_of_msb_false hm, BitVec.toNat_ushiftRight, BitVec.toNat_ofNat, Nat.mod_eq_of_lt (show k < 2 ^ 64 by omega), Nat.shiftRight_eq_div_pow]
  rfl
def nk (N k : Nat) : Nat := if k ≤ 27 then N / 4 ^ (27 - k) else N * 4 ^ (k - 27)
def two (N k : Nat) : Nat := if k < 27 then N / 4 ^ (26 - k) % 4 else 0
theorem two_lt (N k : Nat) : two N k < 4 := by unfold two; split <;> omega
theorem nk_step (N k : Nat) : nk N (k + 1) = 4 * nk N k + two N k := by
  unfold nk two
  by_cases h : k < 27
  · rw [if_pos (by omega), if_pos (by omega), if_pos h, show 27 - (k + 1) = 26 - k by omega, show 27 - k = (26 - k) + 1 by omega, Nat.pow_succ, ← Nat.div_div_eq_div_mul]
    omega
  · rw [if_neg (by omega), if_neg h]
    by_cases h2 : k = 27
    · subst h2; rw [if_pos (by decide)]; simp; omega
    · rw [if_neg (by omega), show k + 1 - 27 = (k - 27) + 1 by omega, Nat.pow_succ]
      rw [← Nat.mul_assoc]; omega
def SQ (n r s : Nat) : Prop := r * r + s = n ∧ s ≤ 2 * r
theorem sq_step {n r s t : Nat} (h : SQ n r s) (ht : t < 4) : (4 * s + t < 4 * r + 1 → SQ (4 * n + t) (2 * r) (4 * s + t)) ∧ (¬ 4 * s + t < 4 * r + 1 → SQ (4 * n + t) (2 * r + 1) (4 * s + t - (4 * r + 1))) := by
  obtain ⟨h1, h2⟩ := h
  have e1 : 2 * r * (2 * r) = 4 * (r * r) := by rw [Nat.mul_mul_mul_comm]
  have e2 : (2 * r + 1) * (2 * r + 1) = 4 * (r * r) + 4 * r + 1 := by
    rw [Nat.add_mul, Nat.mul_add, e1]; omega
  unfold SQ
  constructor
  · intro h; rw [e1]; omega
  · intro h; rw [e2]; omega
theorem sq_uniq {n r s R S : Nat} (h : SQ n r s) (H : SQ (64 * n) R S) : 8 * r ≤ R ∧ R < 8 * r + 8 ∧ ((R = 8 * r ∧ S = 0) ↔ s = 0) := by
  obtain ⟨h1, h2⟩ := h
  obtain ⟨H1, H2⟩ := H
  have e1 : 8 * r * (8 * r) = 64 * (r * r) := by rw [Nat.mul_mul_mul_comm]
  have e2 : (8 * r + 8) * (8 * r + 8) = 64 * (r * r) + 128 * r + 64 := by
    rw [Nat.add_mul, Nat.mul_add, e1]; omega
  have e3 : (R + 1) * (R + 1) = R * R + 2 * R + 1 := by rw [Nat.add_mul, Nat.mul_add]; omega
  have a1 : 8 * r ≤ R := by
    refine Decidable.byContradiction (fun z => ?_)
    have := Nat.mul_le_mul (show R + 1 ≤ 8 * r by omega) (show R + 1 ≤ 8 * r by omega)
    omega
  have a2 : R < 8 * r + 8 := by
    refine Decidable.byContradiction (fun z => ?_)
    have := Nat.mul_le_mul (show 8 * r + 8 ≤ R by omega) (show 8 * r + 8 ≤ R by omega)
    omega
  refine ⟨a1, a2, ?_⟩
  constructor
  · rintro ⟨z1, z2⟩; rw [z1, e1] at H1; omega
  · intro z
    have : R = 8 * r := by
      refine Decidable.byContradiction (fun w => ?_)
      have := Nat.mul_le_mul (show 8 * r + 1 ≤ R by omega) (show 8 * r + 1 ≤ R by omega)
      have e4 : (8 * r + 1) * (8 * r + 1) = 64 * (r * r) + 16 * r + 1 := by rw [Nat.add_mul, Nat.mul_add, e1]; omega
      omega
    refine ⟨this, ?_⟩
    rw [this, e1] at H1
    omega
theorem t_2sh : (2 : Int32).toInt = (2 : Nat) := by decide
theorem or_low {a b k : Nat} (h : b < 2 ^ k) : a * 2 ^ k ||| b = a * 2 ^ k + b := by rw [Nat.mul_comm, n_or_top h]
theorem pow4 (j : Nat) : 2 ^ (2 * j) = 4 ^ j := by rw [Nat.pow_mul]
theorem cr_loop {v3 : Int64} {N : Nat} (hN : ub v3 = N) (hN2 : N < 18014398509481984) {v5 : Int32} : ∀ (j fuel : Nat) (root rest : Int64) (i : Int32) (k : Nat), k + j ≤ 57 → i.toInt = k → j ≤ fuel → SQ (nk N k) (ub root) (ub rest) → ub root < 2 ^ k →
    ∃ root' rest' : Int64, f_X5_root_98 fuel v3 v5 root rest i = f_X5_root_98 (fuel - j) v3 v5 root' rest' (nI (k + j)) ∧ SQ (nk N (k + j)) (ub root') (ub rest') ∧ ub root' < 2 ^ (k + j) := by
  intro j
  induction j with
  | zero =>
    intro fuel root rest i k hk hi hf hs hr
    exact ⟨root, rest, by rw [nI_is hi (by omega)]; rfl, hs, hr⟩
  | succ j ih =>
    intro fuel root rest i k hk hi hf hs hr
    obtain ⟨n, rfl⟩ : ∃ n, fuel = n + 1 := ⟨fuel - 1, by omega⟩
    have hp : 2 ^ k ≤ 2 ^ 56 := Nat.pow_le_pow_right (by decide) (by omega)
    have hps : 2 ^ (k + 1) = 2 * 2 ^ k := by rw [Nat.pow_succ]; omega
    have hi1 : (i + (1 : Int32)).toInt = ((k + 1 : Nat) : Int) := by rw [i_add1 (by omega), hi]; omega
    have ht := two_lt N k
    obtain ⟨s1, s2⟩ := sq_step hs ht
    rw [← nk_step] at s1 s2
    have hs2 := hs.2
    rw [show n + 1 - (j + 1) = n - j by omega, show k + (j + 1) = k + 1 + j by omega]
    have h129 : ∀ t0 : Int64, ub t0 = two N k → ∃ root' rest' : Int64, f_X5_root_129 (f_X5_root_98 n) v3 v5 root rest i t0 = f_X5_root_98 (n - j) v3 v5 root' rest' (nI (k + 1 + j)) ∧ SQ (nk N (k + 1 + j)) (ub root') (ub rest') ∧ ub root' < 2 ^ (k + 1 + j) := by
      intro t0 ht0
      unfold f_X5_root_129 f_X5_root_175
      simp only [jlet]
      have x4 : ub ((rest <<< ((2 : Int32).toInt64 &&& 63)) ||| t0) = 4 * ub rest + two N k := by
        rw [ub_or, ub_shl _ t_2sh (by decide), ht0, Nat.mod_eq_of_lt (by omega), or_low (by omega)]; omega
      have x5 : ub ((root <<< ((2 : Int32).toInt64 &&& 63)) ||| (1 : Int64)) = 4 * ub root + 1 := by
        rw [ub_or, ub_shl _ t_2sh (by decide), show ub (1 : Int64) = 1 from rfl, Nat.mod_eq_of_lt (by omega), or_low (by decide)]; omega
      have x6 : ub (root <<< ((1 : Int32).toInt64 &&& 63)) = 2 * ub root := by
        rw [ub_shl _ t_1sh (by decide)]; omega
      have hc : ((rest <<< ((2 : Int32).toInt64 &&& 63)) ||| t0) < ((root <<< ((2 : Int32).toInt64 &&& 63)) ||| (1 : Int64)) ↔ 4 * ub rest + two N k < 4 * ub root + 1 := by
        rw [ub_llt (by omega) (by omega), x4, x5]
      by_cases c : 4 * ub rest + two N k < 4 * ub root + 1
      · rw [if_pos (hc.mpr c)]
        have s1 := s1 c
        refine ih n _ _ _ (k + 1) (by omega) hi1 (by omega) (by rw [x6, x4]; exact s1) (by rw [x6]; omega)
      · rw [if_neg (fun z => c (hc.mp z))]
        have s2 := s2 c
        have x8 : ub (((rest <<< ((2 : Int32).toInt64 &&& 63)) ||| t0) - ((root <<< ((2 : Int32).toInt64 &&& 63)) ||| (1 : Int64))) = 4 * ub rest + two N k - (4 * ub root + 1) := by
          rw [ub_sub, x4, x5]; omega
        have x9 : ub ((root <<< ((1 : Int32).toInt64 &&& 63)) ||| (1 : Int64)) = 2 * ub root + 1 := by
          rw [ub_or, x6, show ub (1 : Int64) = 1 from rfl, show 2 * ub root = 2 ^ 1 * ub root from rfl, n_or_top (by decide)]
        refine ih n _ _ _ (k + 1) (by omega) hi1 (by omega) (by rw [x9, x8]; exact s2) (by rw [x9]; omega)
    rw [f_X5_root_98]
    have t57 : (57 : Int32).toInt = 57 := by decide
    have t27 : (27 : Int32).toInt = 27 := by decide
    rw [if_neg (by rw [i_le, hi, t57]; omega)]
    by_cases c : 27 ≤ k
    · rw [if_pos (by rw [i_le, hi, t27]; omega)]
      exact h129 0 (by unfold two; rw [if_neg (by omega)]; rfl)
    · rw [if_neg (by rw [i_le, hi, t27]; omega)]
      have h2i : ((2 : Int32) * i).toInt = 2 * k := by
        rw [i_mul (by rw [hi, show (2 : Int32).toInt = 2 from rfl]; omega) (by rw [hi, show (2 : Int32).toInt = 2 from rfl]; omega), hi, show (2 : Int32).toInt = 2 from rfl]
      have hsh : ((52 : Int32) - ((2 : Int32) * i)).toInt = ((2 * (26 - k) : Nat) : Int) := by
        have t52 : (52 : Int32).toInt = 52 := by decide
        rw [i_sub (by rw [h2i, t52]; omega) (by rw [h2i, t52]; omega), h2i, t52]; omega
      refine h129 _ ?_
      rw [ub_and, ub_shr _ hsh (by omega), hN, show ub (3 : Int64) = 2 ^ 2 - 1 from by decide, Nat.and_two_pow_sub_one_eq_mod, pow4]
      unfold two
      rw [if_pos (by omega)]
theorem mr_loop {v4 v6 : Int64} {N : Nat} (hN : ub v6 = N) (hN2 : N < 18014398509481984) : ∀ (j fuel : Nat) (root rest : Int64) (i : Int32) (k : Nat), k + j ≤ 54 → i.toInt = k → j ≤ fuel → SQ (nk N k) (ub root) (ub rest) → ub root < 2 ^ k →
    ∃ root' rest' : Int64, f_X12_root_130 fuel v4 v6 root rest i = f_X12_root_130 (fuel - j) v4 v6 root' rest' (nI (k + j)) ∧ SQ (nk N (k + j)) (ub root') (ub rest') ∧ ub root' < 2 ^ (k + j) := by
  intro j
  induction j with
  | zero =>
    intro fuel root rest i k hk hi hf hs hr
    exact ⟨root, rest, by rw [nI_is hi (by omega)]; rfl, hs, hr⟩
  | succ j ih =>
    intro fuel root rest i k hk hi hf hs hr
    obtain ⟨n, rfl⟩ : ∃ n, fuel = n + 1 := ⟨fuel - 1, by omega⟩
    have hp : 2 ^ k ≤ 2 ^ 53 := Nat.pow_le_pow_right (by decide) (by omega)
    have hps : 2 ^ (k + 1) = 2 * 2 ^ k := by rw [Nat.pow_succ]; omega
    have hi1 : (i + (1 : Int32)).toInt = ((k + 1 : Nat) : Int) := by rw [i_add1 (by omega), hi]; omega
    have ht := two_lt N k
    obtain ⟨s1, s2⟩ := sq_step hs ht
    rw [← nk_step] at s1 s2
    have hs2 := hs.2
    rw [show n + 1 - (j + 1) = n - j by omega, show k + (j + 1) = k + 1 + j by omega]
    have h129 : ∀ t0 : Int64, ub t0 = two N k → ∃ root' rest' : Int64, f_X12_root_164 (f_X12_root_130 n) v4 v6 root rest i t0 = f_X12_root_130 (n - j) v4 v6 root' rest' (nI (k + 1 + j)) ∧ SQ (nk N (k + 1 + j)) (ub root') (ub rest') ∧ ub root' < 2 ^ (k + 1 + j) := by
      intro t0 ht0
      unfold f_X12_root_164 f_X12_root_210
      simp only [jlet]
      have x4 : ub ((rest <<< ((2 : Int32).toInt64 &&& 63)) ||| t0) = 4 * ub rest + two N k := by
        rw [ub_or, ub_shl _ t_2sh (by decide), ht0, Nat.mod_eq_of_lt (by omega), or_low (by omega)]; omega
      have x6 : ub (root <<< ((1 : Int32).toInt64 &&& 63)) = 2 * ub root := by
        rw [ub_shl _ t_1sh (by decide)]; omega
      have x5 : ub (((root <<< ((1 : Int32).toInt64 &&& 63)) <<< ((1 : Int32).toInt64 &&& 63)) ||| (1 : Int64)) = 4 * ub root + 1 := by
        rw [ub_or, ub_shl _ t_1sh (by decide), x6, show ub (1 : Int64) = 1 from rfl, Nat.mod_eq_of_lt (by omega), or_low (by decide)]; omega
      have hc : ((rest <<< ((2 : Int32).toInt64 &&& 63)) ||| t0) < (((root <<< ((1 : Int32).toInt64 &&& 63)) <<< ((1 : Int32).toInt64 &&& 63)) ||| (1 : Int64)) ↔ 4 * ub rest + two N k < 4 * ub root + 1 := by
        rw [ub_llt (by omega) (by omega), x4, x5]
      by_cases c : 4 * ub rest + two N k < 4 * ub root + 1
      · rw [if_pos (hc.mpr c)]
        have s1 := s1 c
        refine ih n _ _ _ (k + 1) (by omega) hi1 (by omega) (by rw [x6, x4]; exact s1) (by rw [x6]; omega)
      · rw [if_neg (fun z => c (hc.mp z))]
        have s2 := s2 c
        have x8 : ub (((rest <<< ((2 : Int32).toInt64 &&& 63)) ||| t0) - (((root <<< ((1 : Int32).toInt64 &&& 63)) <<< ((1 : Int32).toInt64 &&& 63)) ||| (1 : Int64))) = 4 * ub rest + two N k - (4 * ub root + 1) := by
          rw [ub_sub, x4, x5]; omega
        have x9 : ub ((root <<< ((1 : Int32).toInt64 &&& 63)) + (1 : Int64)) = 2 * ub root + 1 := by
          rw [ub_add, x6, show ub (1 : Int64) = 1 from rfl]; omega
        refine ih n _ _ _ (k + 1) (by omega) hi1 (by omega) (by rw [x9, x8]; exact s2) (by rw [x9]; omega)
    rw [f_X12_root_130]
    have t27 : (27 : Int32).toInt = 27 := by decide
    rw [if_neg (by rw [ub_lle (by decide) (by omega), show ub (9007199254740992 : Int64) = 9007199254740992 from by decide]; omega)]
    by_cases c : 27 ≤ k
    · rw [if_pos (by rw [i_le, hi, t27]; omega)]
      exact h129 0 (by unfold two; rw [if_neg (by omega)]; rfl)
    · rw [if_neg (by rw [i_le, hi, t27]; omega)]
      have h2i : ((2 : Int32) * i).toInt = 2 * k := by
        rw [i_mul (by rw [hi, show (2 : Int32).toInt = 2 from rfl]; omega) (by rw [hi, show (2 : Int32).toInt = 2 from rfl]; omega), hi, show (2 : Int32).toInt = 2 from rfl]
      have hsh : ((52 : Int32) - ((2 : Int32) * i)).toInt = ((2 * (26 - k) : Nat) : Int) := by
        have t52 : (52 : Int32).toInt = 52 := by decide
        rw [i_sub (by rw [h2i, t52]; omega) (by rw [h2i, t52]; omega), h2i, t52]; omega
      refine h129 _ ?_
      rw [ub_and, ub_sar (by omega) hsh (by omega), hN, show ub (3 : Int64) = 2 ^ 2 - 1 from by decide, Nat.and_two_pow_sub_one_eq_mod, pow4]
      unfold two
      rw [if_pos (by omega)]
theorem sc_down {c : Nat} (hc : c < 9007199254740992) : ∀ (n fuel : Nat) (v15 : UInt64) (v4 : Int64) (e : Int), n < fuel → v4.toInt = -(n : Int) → FP.Core.val64 v15 = FP.Core.roundRatio FP.Core.b64 false c 1 e → -1074 ≤ e - n → e ≤ 971 →
    ∃ d : UInt64, f_X12_root_307 fuel v4 v15 = some d ∧ FP.Core.val64 d = FP.Core.roundRatio FP.Core.b64 false c 1 (e - n) := by
  intro n
  induction n with
  | zero =>
    intro fuel v6 v8 e hf h8 hv h1 h2
    obtain ⟨m, rfl⟩ : ∃ m, fuel = m + 1 := ⟨fuel - 1, by omega⟩
    unfold f_X12_root_307
    rw [if_pos (by rw [l_le, t_l0, h8]; omega)]
    exact ⟨v6, rfl, by rw [hv]; congr 1; omega⟩
  | succ n ih =>
    intro fuel v6 v8 e hf h8 hv h1 h2
    obtain ⟨m, rfl⟩ : ∃ m, fuel = m + 1 := ⟨fuel - 1, by omega⟩
    unfold f_X12_root_307
    rw [if_neg (by rw [l_le, t_l0, h8]; omega)]
    obtain ⟨j1, j2⟩ := dhalf hv hc (by omega) h2
    rw [if_pos j1]
    simp only [jlet]
    obtain ⟨v6', g1, g2⟩ := ih m _ (v8 + (1 : Int64)) (e - 1) (by omega) (by rw [l_add (by rw [h8, t_l1]; omega) (by rw [h8, t_l1]; omega), h8, t_l1]; omega) j2 (by omega) (by omega)
    exact ⟨v6', g1, by rw [g2]; congr 1; omega⟩
theorem sc_up {c : Nat} (hc : c < 9007199254740992) : ∀ (n fuel : Nat) (v15 : UInt64) (v4 : Int64) (e : Int), n < fuel → v4.toInt = (n : Int) → FP.Core.val64 v15 = FP.Core.roundRatio FP.Core.b64 false c 1 e → -1074 ≤ e → e + n ≤ 971 →
    ∃ d : UInt64, f_X12_root_283 fuel v4 v15 = some d ∧ FP.Core.val64 d = FP.Core.roundRatio FP.Core.b64 false c 1 (e + n) := by
  intro n
  induction n with
  | zero =>
    intro fuel v6 v8 e hf h8 hv h1 h2
    obtain ⟨m, rfl⟩ : ∃ m, fuel = m + 1 := ⟨fuel - 1, by omega⟩
    unfold f_X12_root_283
    rw [if_pos (by rw [l_le, t_l0, h8]; omega)]
    obtain ⟨v6', g1, g2⟩ := sc_down hc 0 1100000 v6 v8 e (by decide) (by rw [h8]; omega) hv (by omega) (by omega)
    exact ⟨v6', g1, by rw [g2]; congr 1⟩
  | succ n ih =>
    intro fuel v6 v8 e hf h8 hv h1 h2
    obtain ⟨m, rfl⟩ : ∃ m, fuel = m + 1 := ⟨fuel - 1, by omega⟩
    unfold f_X12_root_283
    rw [if_neg (by rw [l_le, t_l0, h8]; omega)]
    obtain ⟨j1, j2⟩ := dmulp v_two hv hc h1 (by omega)
    rw [if_pos j1]
    simp only [jlet]
    obtain ⟨v6', g1, g2⟩ := ih m _ (v8 - (1 : Int64)) (e + 1) (by omega) (by rw [l_sub (by rw [h8, t_l1]; omega) (by rw [h8, t_l1]; omega), h8, t_l1]; omega) (by rw [j2]; congr 1; omega) (by omega) (by omega)
    exact ⟨v6', g1, by rw [g2]; congr 1; omega⟩
theorem sc_ok {c : Nat} (hc : c ≤ 9007199254740992) {v8 v4 : Int64} (h8 : ub v8 = c) (h4 : -1000 ≤ v4.toInt ∧ v4.toInt ≤ 900) : ∃ d : UInt64, f_X12_root_278 v4 v8 = some d ∧ FP.Core.val64 d = FP.Core.roundRatio FP.Core.b64 false c 1 v4.toInt := by
  unfold f_X12_root_278
  simp only [jlet]
  have hi : v8.toInt = c := by rw [ub_pos (by omega), h8]
  have hv : FP.Core.val64 (FP.l2d v8) = FP.Core.roundRatio FP.Core.b64 false c 1 0 := by
    rw [val_l2d, hi, decide_eq_false (by omega), Int.natAbs_natCast]
  obtain ⟨A, e0, hA, he0, hrr⟩ : ∃ (A : Nat) (e0 : Nat), A < 9007199254740992 ∧ e0 ≤ 1 ∧ ∀ E : Int, FP.Core.roundRatio FP.Core.b64 false c 1 E = FP.Core.roundRatio FP.Core.b64 false A 1 (E + e0) := by
    by_cases q : c = 9007199254740992
    · refine ⟨4503599627370496, 1, by decide, by decide, fun E => ?_⟩
      rw [q, rr_shift false 4503599627370496 (E + (1 : Nat)) 1]
      congr 1
      omega
    · exact ⟨c, 0, by omega, by decide, fun E => by congr 1; omega⟩
  have hv2 := hv
  rw [hrr] at hv2
  by_cases q : 0 ≤ v4.toInt
  · obtain ⟨d, g1, g2⟩ := sc_up hA v4.toInt.toNat 1100000 (FP.l2d v8) v4 _ (by omega) (by omega) hv2 (by omega) (by omega)
    exact ⟨d, g1, by rw [g2, hrr]; congr 1; omega⟩
  · obtain ⟨d, g1, g2⟩ := sc_down hA (-v4.toInt).toNat 1100000 (FP.l2d v8) v4 _ (by omega) (by omega) hv2 (by omega) (by omega)
    refine ⟨d, ?_, by rw [g2, hrr]; congr 1; omega⟩
    rw [← g1]
    show f_X12_root_283 (1099999 + 1) _ _ = _
    unfold f_X12_root_283
    rw [if_pos (by rw [l_le, t_l0]; omega)]

/-! PURE: the reference's way from bits to doubles and back -/
theorem cong_shift {c A a b u v : Nat} (h : c * 2 ^ a = A * 2 ^ b) (e : u + b = v + a) : c * 2 ^ u = A * 2 ^ v := by
  refine Nat.eq_of_mul_eq_mul_right (Nat.two_pow_pos a) ?_
  calc c * 2 ^ u * 2 ^ a = c * 2 ^ a * 2 ^ u := by ac_rfl
    _ = A * 2 ^ b * 2 ^ u := by rw [h]
    _ = A * 2 ^ (u + b) := by rw [Nat.pow_add]; ac_rfl
    _ = A * 2 ^ v * 2 ^ a := by rw [e, Nat.pow_add]; ac_rfl
theorem rr_shape {s : Bool} {A : Nat} {e : Int} (hA : A < 9007199254740992) (h1 : -1074 ≤ e) (h2 : e ≤ 971) : ∃ (c : Nat) (q : Int), FP.Core.roundRatio FP.Core.b64 s A 1 e = .fin s c q ∧ -1074 ≤ q ∧ c * 2 ^ (q + 1074).toNat = A * 2 ^ (e + 1074).toNat := by
  obtain ⟨c, q, g1, g2⟩ := FP.Core.round_exact FP.Core.good_b64 s (c := A) (q := e) (by rw [b_p]; exact hA) (by rw [b_q]; exact h1) (by rw [b_Q]; exact h2)
  have hf : FP.Core.fits FP.Core.b64 (.fin s c q) := g1 ▸ FP.Core.round_fits FP.Core.good_b64 _
  refine ⟨c, q, g1, by have := hf.2.1; rw [b_q] at this; exact this, ?_⟩
  unfold FP.Core.inUnits at g2
  rw [b_q] at g2
  rw [show q + 1074 = q - (-1074) by omega, show e + 1074 = e - (-1074) by omega]
  exact g2
theorem dhalf {d : UInt64} {s : Bool} {A : Nat} {e : Int} (hv : FP.Core.val64 d = FP.Core.roundRatio FP.Core.b64 s A 1 e) (hA : A < 9007199254740992) (h1 : -1074 ≤ e) (h2 : e ≤ 971) : jnn (FP.ddiv d (4611686018427387904 : UInt64)) = true ∧ FP.Core.val64 (FP.ddiv d (4611686018427387904 : UInt64)) = FP.Core.roundRatio FP.Core.b64 s A 1 (e - 1) := by
  obtain ⟨c, q, g1, g2, g3⟩ := rr_shape (s := s) hA h1 h2
  have hval : FP.Core.val64 (FP.ddiv d (4611686018427387904 : UInt64)) = FP.Core.roundRatio FP.Core.b64 s A 1 (e - 1) := by
    rw [show FP.ddiv d (4611686018427387904 : UInt64) = FP.Core.ddiv d (4611686018427387904 : UInt64) from rfl, FP.Core.val64_ddiv, hv, g1, show FP.Core.val64 (4611686018427387904 : UInt64) = .fin false 4503599627370496 (-51) from by decide +kernel]
    show FP.Core.roundRatio FP.Core.b64 (s != false) c 4503599627370496 (q - -51) = _
    rw [show (s != false) = s from by cases s <;> rfl]
    refine FP.Core.roundRatio_congr (by decide) Nat.one_pos ?_
    rw [Nat.mul_one, Nat.mul_assoc, show (4503599627370496 : Nat) = 2 ^ 52 from rfl, ← Nat.pow_add]
    exact cong_shift g3 (by omega)
  exact ⟨jnn_iff.mpr (by rw [hval]; exact FP.Core.roundRatio_ne_nan _ _ _ _ _), hval⟩
theorem dmulp {d m : UInt64} {s : Bool} {A : Nat} {e j : Int} (hm : FP.Core.val64 m = .fin false 4503599627370496 j) (hv : FP.Core.val64 d = FP.Core.roundRatio FP.Core.b64 s A 1 e) (hA : A < 9007199254740992) (h1 : -1074 ≤ e) (h2 : e ≤ 971) : jnn (FP.dmul d m) = true ∧ FP.Core.val64 (FP.dmul d m) = FP.Core.roundRatio FP.Core.b64 s A 1 (e + j + 52) := by
  obtain ⟨c, q, g1, g2, g3⟩ := rr_shape (s := s) hA h1 h2
  have hval : FP.Core.val64 (FP.dmul d m) = FP.Core.roundRatio FP.Core.b64 s A 1 (e + j + 52) := by
    rw [show FP.dmul d m = FP.Core.dmul d m from rfl, FP.Core.val64_dmul, hv, g1, hm]
    show FP.Core.roundRatio FP.Core.b64 (s != false) (c * 4503599627370496) 1 (q + j) = _
    rw [show (s != false) = s from by cases s <;> rfl]
    refine FP.Core.roundRatio_congr Nat.one_pos Nat.one_pos ?_
    rw [Nat.mul_one, Nat.mul_one, Nat.mul_assoc, show (4503599627370496 : Nat) = 2 ^ 52 from rfl, ← Nat.pow_add]
    exact cong_shift g3 (by omega)
  exact ⟨jnn_iff.mpr (by rw [hval]; exact FP.Core.roundRatio_ne_nan _ _ _ _ _), hval⟩
theorem v_two : FP.Core.val64 (4611686018427387904 : UInt64) = .fin false 4503599627370496 (-51) := by decide +kernel
theorem v_52 : FP.Core.val64 (4841369599423283200 : UInt64) = .fin false 4503599627370496 0 := by decide +kernel
theorem v_one : FP.Core.val64 FP.dconst1 = .fin false 4503599627370496 (-52) := by decide +kernel
theorem t_l1 : (1 : Int64).toInt = 1 := by decide
theorem ob_down {x : Int64} {c : Nat} (hc : c < 9007199254740992) : ∀ (n fuel : Nat) (v6 : UInt64) (v8 : Int64) (e : Int), n < fuel → v8.toInt = -(n : Int) → FP.Core.val64 v6 = FP.Core.roundRatio FP.Core.b64 false c 1 e → -1074 ≤ e - n → e ≤ 971 →
    ∃ v6' : UInt64, f_X12_ofBits_119 fuel x v6 v8 = (if (0 : Int64) ≤ x then some v6' else some (FP.dneg v6')) ∧ FP.Core.val64 v6' = FP.Core.roundRatio FP.Core.b64 false c 1 (e - n) := by
  intro n
  induction n with
  | zero =>
    intro fuel v6 v8 e hf h8 hv h1 h2
    obtain ⟨m, rfl⟩ : ∃ m, fuel = m + 1 := ⟨fuel - 1, by omega⟩
    unfold f_X12_ofBits_119
    rw [if_pos (by rw [l_le, t_l0, h8]; omega)]
    exact ⟨v6, rfl, by rw [hv]; congr 1; omega⟩
  | succ n ih =>
    intro fuel v6 v8 e hf h8 hv h1 h2
    obtain ⟨m, rfl⟩ : ∃ m, fuel = m + 1 := ⟨fuel - 1, by omega⟩
    unfold f_X12_ofBits_119
    rw [if_neg (by rw [l_le, t_l0, h8]; omega)]
    obtain ⟨j1, j2⟩ := dhalf hv hc (by omega) h2
    rw [if_pos j1]
    simp only [jlet]
    obtain ⟨v6', g1, g2⟩ := ih m _ (v8 + (1 : Int64)) (e - 1) (by omega) (by rw [l_add (by rw [h8, t_l1]; omega) (by rw [h8, t_l1]; omega), h8, t_l1]; omega) j2 (by omega) (by omega)
    exact ⟨v6', g1, by rw [g2]; congr 1; omega⟩
theorem ob_up {x : Int64} {c : Nat} (hc : c < 9007199254740992) : ∀ (n fuel : Nat) (v6 : UInt64) (v8 : Int64) (e : Int), n < fuel → v8.toInt = (n : Int) → FP.Core.val64 v6 = FP.Core.roundRatio FP.Core.b64 false c 1 e → -1074 ≤ e → e + n ≤ 971 →
    ∃ v6' : UInt64, f_X12_ofBits_95 fuel x v6 v8 = (if (0 : Int64) ≤ x then some v6' else some (FP.dneg v6')) ∧ FP.Core.val64 v6' = FP.Core.roundRatio FP.Core.b64 false c 1 (e + n) := by
  intro n
  induction n with
  | zero =>
    intro fuel v6 v8 e hf h8 hv h1 h2
    obtain ⟨m, rfl⟩ : ∃ m, fuel = m + 1 := ⟨fuel - 1, by omega⟩
    unfold f_X12_ofBits_95
    rw [if_pos (by rw [l_le, t_l0, h8]; omega)]
    obtain ⟨v6', g1, g2⟩ := ob_down (x := x) hc 0 1100000 v6 v8 e (by decide) (by rw [h8]; omega) hv (by omega) (by omega)
    exact ⟨v6', g1, by rw [g2]; congr 1⟩
  | succ n ih =>
    intro fuel v6 v8 e hf h8 hv h1 h2
    obtain ⟨m, rfl⟩ : ∃ m, fuel = m + 1 := ⟨fuel - 1, by omega⟩
    unfold f_X12_ofBits_95
    rw [if_neg (by rw [l_le, t_l0, h8]; omega)]
    obtain ⟨j1, j2⟩ := dmulp v_two hv hc h1 (by omega)
    rw [if_pos j1]
    simp only [jlet]
    obtain ⟨v6', g1, g2⟩ := ih m _ (v8 - (1 : Int64)) (e + 1) (by omega) (by rw [l_sub (by rw [h8, t_l1]; omega) (by rw [h8, t_l1]; omega), h8, t_l1]; omega) (by rw [j2]; congr 1; omega) (by omega) (by omega)
    exact ⟨v6', g1, by rw [g2]; congr 1; omega⟩
theorem ub_sar52 (x : Int64) : ub ((x >>> ((52 : Int32).toInt64 &&& 63)) &&& (2047 : Int64)) = ub x / 4503599627370496 % 2048 := by
  rw [ub_and, show ub (2047 : Int64) = 2 ^ 11 - 1 from by decide, Nat.and_two_pow_sub_one_eq_mod]
  show _ = ub x / 2 ^ 52 % 2 ^ 11
  apply Nat.eq_of_testBit_eq
  intro i
  rw [Nat.testBit_mod_two_pow, Nat.testBit_mod_two_pow, Nat.testBit_div_two_pow]
  by_cases c : i < 11
  · simp only [c, decide_true, Bool.true_and]
    have hs : ((52 : Int32).toInt64 &&& 63).toBitVec.smod 64 = BitVec.ofNat 64 52 := by decide
    rw [ub_bv, ub_bv, Int64.toBitVec_shiftRight, hs]
    show (x.toBitVec.sshiftRight 52).toNat.testBit i = _
    rw [BitVec.testBit_toNat, BitVec.getLsbD_sshiftRight, BitVec.testBit_toNat, if_pos (by omega), Nat.add_comm]
    simp; omega
  · simp [c]
theorem ofBits_ok (x : Int64) : f_X12_ofBits x = some (if f_X5_isNot x = 0 then x else 9221120237041090560).toUInt64 := by
  have hE : ub ((x >>> ((52 : Int32).toInt64 &&& 63)) &&& (2047 : Int64)) = ub x / 4503599627370496 % 2048 := ub_sar52 x
  have hF := ub_frac x
  have hsub := mg_sub (x := x)
  obtain ⟨hE2, hT2⟩ := dS_ub (x := x)
  have hm : mg x < 9223372036854775808 := Nat.mod_lt _ (by decide)
  have hmm : mg x = ub x / 4503599627370496 % 2048 * 4503599627370496 + ub x % 4503599627370496 := by omega
  unfold f_X12_ofBits
  simp only [jlet, isNot_ok]
  have c1 : ((x >>> ((52 : Int32).toInt64 &&& 63)) &&& (2047 : Int64)) = (2047 : Int64) ↔ ub x / 4503599627370496 % 2048 = 2047 := by
    rw [ub_inj, hE]; exact Iff.rfl
  have c2 : ((x >>> ((52 : Int32).toInt64 &&& 63)) &&& (2047 : Int64)) = (0 : Int64) ↔ ub x / 4503599627370496 % 2048 = 0 := by
    rw [ub_inj, hE]; exact Iff.rfl
  have c3 : (x &&& (4503599627370495 : Int64)) = (0 : Int64) ↔ ub x % 4503599627370496 = 0 := by
    rw [ub_inj, hF]; exact Iff.rfl
  by_cases d1 : ub x / 4503599627370496 % 2048 = 2047
  · rw [if_pos (c1.mpr d1)]
    unfold f_X12_ofBits_39
    by_cases d3 : ub x % 4503599627370496 = 0
    · rw [if_pos (c3.mpr d3), if_pos (c3.mpr d3), if_pos (show mg x ≤ 9218868437227405312 by omega), if_pos rfl]
      cases hs : dS x
      · rw [if_pos (dS_nn.mpr hs)]
        rw [hs] at hsub
        congr 1
        rw [inf_u]
        congr 1
        rw [ub_inj, hsub]; simp only [Bool.toNat_false]; rw [show ub (9218868437227405312 : Int64) = 9218868437227405312 from by decide]; omega
      · rw [if_neg (by rw [dS_nn, hs]; decide)]
        rw [hs] at hsub
        congr 1
        rw [ninf_u]
        congr 1
        rw [ub_inj, hsub]; simp only [Bool.toNat_true]; rw [show ub (-4503599627370496 : Int64) = 18442240474082181120 from by decide]; omega
    · rw [if_neg (fun z => d3 (c3.mp z)), if_neg (fun z => d3 (c3.mp z)), ite_self, if_neg (show ¬ mg x ≤ 9218868437227405312 by omega), if_neg (by decide), nan_u]
  · rw [if_neg (fun z => d1 (c1.mp z)), if_pos (show mg x ≤ 9218868437227405312 by omega), if_pos rfl]
    have goal : ∀ (c : Nat) (v : Int64) (e : Int64), c < 9007199254740992 → ub v = c → e.toInt - 1075 ≤ 971 → -1074 ≤ e.toInt - 1075 → dv x = .fin (dS x) c (e.toInt - 1075) → f_X12_ofBits_89 x (FP.l2d v) e = some x.toUInt64 := by
      intro c v e hc hv he1 he2 hdv
      unfold f_X12_ofBits_89
      simp only [jlet]
      have hvi : v.toInt = c := by rw [ub_pos (by omega), hv]
      have hval : FP.Core.val64 (FP.l2d v) = FP.Core.roundRatio FP.Core.b64 false c 1 0 := by
        rw [val_l2d, hvi, decide_eq_false (by omega), Int.natAbs_natCast]
      have he : (e - (1075 : Int64)).toInt = e.toInt - 1075 := by
        have t : (1075 : Int64).toInt = 1075 := by decide
        rw [l_sub (by rw [t]; omega) (by rw [t]; omega), t]
      have fin : ∃ v6' : UInt64, f_X12_ofBits_95 1100000 x (FP.l2d v) (e - (1075 : Int64)) = (if (0 : Int64) ≤ x then some v6' else some (FP.dneg v6')) ∧ FP.Core.val64 v6' = FP.Core.roundRatio FP.Core.b64 false c 1 (e.toInt - 1075) := by
        by_cases q : 0 ≤ e.toInt - 1075
        · obtain ⟨v6', g1, g2⟩ := ob_up (x := x) hc (e.toInt - 1075).toNat 1100000 _ (e - (1075 : Int64)) 0 (by omega) (by rw [he]; omega) hval (by decide) (by omega)
          exact ⟨v6', g1, by rw [g2]; congr 1; omega⟩
        · obtain ⟨v6', g1, g2⟩ := ob_down (x := x) hc (1075 - e.toInt).toNat 1100000 _ (e - (1075 : Int64)) 0 (by omega) (by rw [he]; omega) hval (by omega) (by decide)
          refine ⟨v6', ?_, by rw [g2]; congr 1; omega⟩
          rw [← g1]
          show f_X12_ofBits_95 (1099999 + 1) x _ _ = _
          unfold f_X12_ofBits_95
          rw [if_pos (by rw [l_le, t_l0, he]; omega)]
      obtain ⟨v6', g1, g2⟩ := fin
      have hfit : FP.Core.fits FP.Core.b64 (.fin (dS x) c (e.toInt - 1075)) := hdv ▸ dv_fits x
      have hrr : FP.Core.roundRatio FP.Core.b64 false c 1 (e.toInt - 1075) = .fin false c (e.toInt - 1075) := FP.Core.roundRatio_exact FP.Core.good_b64 Nat.one_pos hfit (by rw [Nat.mul_one])
      rw [hrr] at g2
      have hnn : dv x ≠ .nan := by rw [hdv]; exact FP.Core.Datum.noConfusion
      rw [g1]
      cases hs : dS x
      · rw [if_pos (dS_nn.mpr hs)]
        rw [hs] at hdv
        congr 1
        exact dv_inj (by rw [g2, hdv]) hnn
      · rw [if_neg (by rw [dS_nn, hs]; decide)]
        rw [hs] at hdv
        congr 1
        refine dv_inj ?_ hnn
        rw [FP.val64_dneg, g2, hdv]; rfl
    unfold f_X12_ofBits_76
    by_cases d2 : ub x / 4503599627370496 % 2048 = 0
    · rw [if_pos (c2.mpr d2), if_pos (c2.mpr d2)]
      refine goal (ub x % 4503599627370496) _ 1 (by omega) hF (by decide) (by decide) ?_
      rw [dv_eq, if_neg d1, if_pos d2]; rfl
    · rw [if_neg (fun z => d2 (c2.mp z)), if_neg (fun z => d2 (c2.mp z))]
      have hEi : ((x >>> ((52 : Int32).toInt64 &&& 63)) &&& (2047 : Int64)).toInt = ((ub x / 4503599627370496 % 2048 : Nat) : Int) := by
        rw [ub_pos (by omega), hE]
      have hF2 : ub ((x &&& (4503599627370495 : Int64)) + (4503599627370496 : Int64)) = 4503599627370496 + ub x % 4503599627370496 := by
        rw [ub_add, hF, show ub (4503599627370496 : Int64) = 4503599627370496 from by decide]; omega
      refine goal _ _ _ (by omega) hF2 (by rw [hEi]; omega) (by rw [hEi]; omega) ?_
      rw [dv_eq, if_neg d1, if_neg d2, hEi]
theorem cmp_rr {d m : UInt64} {c : Nat} {e : Int} {j : Int} (hm : FP.Core.val64 m = .fin false 4503599627370496 j) (hj : -1074 ≤ j) (hv : FP.Core.val64 d = FP.Core.roundRatio FP.Core.b64 false c 1 e) (hA : c < 9007199254740992) (h1 : -1074 ≤ e) (h2 : e ≤ 971) : (Op.cmpValue (FP.dcmp d m) .l < 0 ↔ c * 2 ^ (e + 1074).toNat < 4503599627370496 * 2 ^ (j + 1074).toNat) ∧ (0 ≤ Op.cmpValue (FP.dcmp d m) .g ↔ ¬ c * 2 ^ (e + 1074).toNat < 4503599627370496 * 2 ^ (j + 1074).toNat) := by
  obtain ⟨c', q, g1, g2, g3⟩ := rr_shape (s := false) hA h1 h2
  have n1 : FP.Core.val64 d ≠ .nan := by rw [hv]; exact FP.Core.roundRatio_ne_nan _ _ _ _ _
  have n2 : FP.Core.val64 m ≠ .nan := by rw [hm]; exact FP.Core.Datum.noConfusion
  have z1 : FP.Core.zval FP.Core.b64 (FP.Core.val64 d) = ((c * 2 ^ (e + 1074).toNat : Nat) : Int) := by
    rw [hv, g1, ← g3]
    show ((c' * 2 ^ (q - FP.Core.b64.qmin).toNat : Nat) : Int) = _
    rw [b_q, show q - (-1074) = q + 1074 by omega]
  have z2 : FP.Core.zval FP.Core.b64 (FP.Core.val64 m) = ((4503599627370496 * 2 ^ (j + 1074).toNat : Nat) : Int) := by
    rw [hm]
    show ((4503599627370496 * 2 ^ (j - FP.Core.b64.qmin).toNat : Nat) : Int) = _
    rw [b_q, show j - (-1074) = j + 1074 by omega]
  have hlt : FP.dcmp d m = some .lt ↔ c * 2 ^ (e + 1074).toNat < 4503599627370496 * 2 ^ (j + 1074).toNat := by
    rw [show FP.dcmp d m = FP.Core.dcmp d m from rfl, FP.Core.dcmp_lt, z1, z2]
    exact ⟨fun z => Int.ofNat_lt.mp z.2.2, fun z => ⟨n1, n2, Int.ofNat_lt.mpr z⟩⟩
  have hno : FP.dcmp d m ≠ none := fun z => by
    rcases (FP.Core.dcmp_none d m).mp z with q | q
    · exact n1 q
    · exact n2 q
  rw [(co_l _).2.1, (co_g _).2.2, Ne, hlt]
  exact ⟨⟨fun z => z.resolve_right hno, .inl⟩, Iff.rfl⟩
theorem pow_big {c : Nat} (hc1 : 4503599627370496 ≤ c) (hc2 : c < 9007199254740992) {e j : Int} (h1 : -1074 ≤ e) (hj : -1074 ≤ j) : c * 2 ^ (e + 1074).toNat < 4503599627370496 * 2 ^ (j + 1074).toNat ↔ e < j := by
  constructor
  · intro h
    refine Int.not_le.mp (fun z => ?_)
    have h2 : 2 ^ (j + 1074).toNat ≤ 2 ^ (e + 1074).toNat := Nat.pow_le_pow_right (by decide) (by omega)
    have := Nat.mul_le_mul hc1 h2
    omega
  · intro h
    have h2 : 2 ^ (e + 1074).toNat * 2 ≤ 2 ^ (j + 1074).toNat := by
      rw [← Nat.pow_succ]; exact Nat.pow_le_pow_right (by decide) (by omega)
    have h3 := Nat.mul_le_mul_left 4503599627370496 h2
    have h4 : c * 2 ^ (e + 1074).toNat < 9007199254740992 * 2 ^ (e + 1074).toNat := Nat.mul_lt_mul_of_pos_right hc2 (Nat.two_pow_pos _)
    omega
theorem bo_89 {sg : Int64} {c : Nat} (hc1 : 4503599627370496 ≤ c) (hc2 : c < 9007199254740992) : ∀ (n fuel : Nat) (v3 : UInt64) (v7 : Int64) (e : Int), n < fuel → e = -52 + (n : Int) → e ≤ 971 → FP.Core.val64 v3 = FP.Core.roundRatio FP.Core.b64 false c 1 e → 0 ≤ v7.toInt → v7.toInt + n ≤ 2000 →
    ∃ (v3' : UInt64) (v7' : Int64), f_X12_bitsOf_89 fuel v3 sg v7 = f_X12_bitsOf_112 1100000 v3' sg v7' ∧ FP.Core.val64 v3' = FP.Core.roundRatio FP.Core.b64 false c 1 (-52) ∧ v7'.toInt = v7.toInt + n := by
  intro n
  induction n with
  | zero =>
    intro fuel v3 v7 e hf he he2 hv h7 h72
    obtain ⟨m, rfl⟩ : ∃ m, fuel = m + 1 := ⟨fuel - 1, by omega⟩
    unfold f_X12_bitsOf_89
    rw [if_pos ((cmp_rr v_two (by decide) hv hc2 (by omega) he2).1.mpr ((pow_big hc1 hc2 (by omega) (by decide)).mpr (by omega)))]
    exact ⟨v3, v7, rfl, by rw [hv, he]; rfl, by omega⟩
  | succ n ih =>
    intro fuel v3 v7 e hf he he2 hv h7 h72
    obtain ⟨m, rfl⟩ : ∃ m, fuel = m + 1 := ⟨fuel - 1, by omega⟩
    unfold f_X12_bitsOf_89
    rw [if_neg (fun z => by have := (pow_big hc1 hc2 (by omega) (by decide)).mp ((cmp_rr v_two (by decide) hv hc2 (by omega) he2).1.mp z); omega)]
    obtain ⟨j1, j2⟩ := dhalf hv hc2 (by omega) he2
    rw [if_pos j1]
    simp only [jlet]
    have h71 : (v7 + (1 : Int64)).toInt = v7.toInt + 1 := by rw [l_add (by rw [t_l1]; omega) (by rw [t_l1]; omega), t_l1]
    obtain ⟨v3', v7', g1, g2, g3⟩ := ih m _ (v7 + (1 : Int64)) (e - 1) (by omega) (by omega) (by omega) j2 (by omega) (by omega)
    exact ⟨v3', v7', g1, g2, by omega⟩
theorem bo_112 {sg : Int64} {c : Nat} (hc2 : c < 9007199254740992) : ∀ (n fuel : Nat) (v3 : UInt64) (v7 : Int64) (e : Int), n < fuel → e = -52 - (n : Int) → -1074 ≤ e → FP.Core.val64 v3 = FP.Core.roundRatio FP.Core.b64 false c 1 e → -1022 ≤ v7.toInt - n → v7.toInt ≤ 2000 → (4503599627370496 ≤ c ∨ v7.toInt - n = -1022) →
    ∃ (v3' : UInt64) (v7' : Int64), f_X12_bitsOf_112 fuel v3 sg v7 = f_X12_bitsOf_142 v3' sg v7' ∧ FP.Core.val64 v3' = FP.Core.roundRatio FP.Core.b64 false c 1 (-52) ∧ v7'.toInt = v7.toInt - n := by
  have t1022 : (-1022 : Int64).toInt = -1022 := by decide
  intro n
  induction n with
  | zero =>
    intro fuel v3 v7 e hf he he2 hv h7 h72 hor
    obtain ⟨m, rfl⟩ : ∃ m, fuel = m + 1 := ⟨fuel - 1, by omega⟩
    unfold f_X12_bitsOf_112
    have hcmp := (cmp_rr v_one (by decide) hv hc2 he2 (by omega)).2
    by_cases q : 0 ≤ Op.cmpValue (FP.dcmp v3 FP.dconst1) .g
    · rw [if_pos q]
      exact ⟨v3, v7, rfl, by rw [hv, he]; rfl, by omega⟩
    · rw [if_neg q]
      have hlt : ¬ 4503599627370496 ≤ c := fun z => q (hcmp.mpr (fun w => by have := (pow_big z hc2 he2 (by decide)).mp w; omega))
      rw [if_pos (by rw [l_le, t1022]; omega)]
      exact ⟨v3, v7, rfl, by rw [hv, he]; rfl, by omega⟩
  | succ n ih =>
    intro fuel v3 v7 e hf he he2 hv h7 h72 hor
    obtain ⟨m, rfl⟩ : ∃ m, fuel = m + 1 := ⟨fuel - 1, by omega⟩
    unfold f_X12_bitsOf_112
    have hcmp := (cmp_rr v_one (by decide) hv hc2 he2 (by omega)).2
    have hlt : c * 2 ^ (e + 1074).toNat < 4503599627370496 * 2 ^ ((-52 : Int) + 1074).toNat := by
      by_cases z : 4503599627370496 ≤ c
      · exact (pow_big z hc2 he2 (by decide)).mpr (by omega)
      · have h2 : 2 ^ (e + 1074).toNat ≤ 2 ^ ((-52 : Int) + 1074).toNat := Nat.pow_le_pow_right (by decide) (by omega)
        exact Nat.lt_of_le_of_lt (Nat.mul_le_mul_left c h2) (Nat.mul_lt_mul_of_pos_right (by omega) (Nat.two_pow_pos _))
    rw [if_neg (fun z => hcmp.mp z hlt), if_neg (by rw [l_le, t1022]; omega)]
    obtain ⟨j1, j2⟩ := dmulp v_two hv hc2 he2 (by omega)
    rw [if_pos j1]
    simp only [jlet]
    have h71 : (v7 - (1 : Int64)).toInt = v7.toInt - 1 := by rw [l_sub (by rw [t_l1]; omega) (by rw [t_l1]; omega), t_l1]
    obtain ⟨v3', v7', g1, g2, g3⟩ := ih m _ (v7 - (1 : Int64)) (e + 1) (by omega) (by omega) (by omega) (by rw [j2]; congr 1; omega) (by omega) (by omega) (by omega)
    exact ⟨v3', v7', g1, g2, by omega⟩
theorem d2l_rr {d : UInt64} {T : Nat} (hT : T < 9007199254740992) (hv : FP.Core.val64 d = FP.Core.roundRatio FP.Core.b64 false T 1 0) : FP.d2l d = Int64.ofInt T := by
  have hi : (Int64.ofInt (T : Int)).toInt = T := l_of (by omega) (by omega)
  refine FP.Core.d2l_int ?_
  have h := FP.Core.l2d_int (a := Int64.ofInt (T : Int)) (by rw [hi]; omega)
  unfold FP.Core.DInt at h ⊢
  rw [show FP.Core.l2d (Int64.ofInt (T : Int)) = FP.l2d (Int64.ofInt (T : Int)) from rfl, val_l2d, hi, decide_eq_false (by omega), Int.natAbs_natCast] at h
  rw [hv, hi]; exact h
theorem ub_ofInt {T : Nat} (hT : T < 9223372036854775808) : ub (Int64.ofInt (T : Int)) = T := by
  have h := l_of (n := (T : Int)) (by omega) (by omega)
  have := ub_of_nn (x := Int64.ofInt (T : Int)) (by omega)
  omega
theorem bo_142a {v3 : UInt64} {sg v7 : Int64} {c E : Nat} {s : Bool} (hc1 : 4503599627370496 ≤ c) (hc2 : c < 9007199254740992) (hv : FP.Core.val64 v3 = FP.Core.roundRatio FP.Core.b64 false c 1 (-52)) (hsg : ub sg = s.toNat * 9223372036854775808) (h7 : v7.toInt = (E : Int) - 1023) (hE : E ≤ 2046) : ∃ r, f_X12_bitsOf_142 v3 sg v7 = some r ∧ ub r = s.toNat * 9223372036854775808 + E * 4503599627370496 + (c - 4503599627370496) := by
  unfold f_X12_bitsOf_142
  rw [if_pos ((cmp_rr v_one (by decide) hv hc2 (by decide) (by decide)).2.mpr (fun z => by have := (pow_big hc1 hc2 (by decide) (by decide)).mp z; omega))]
  have hfit : FP.Core.fits FP.Core.b64 (.fin false c (-52)) := ⟨by rw [b_p]; exact hc2, by rw [b_q]; decide, by rw [b_Q]; decide, .inr (by rw [b_t]; exact hc1)⟩
  have hv2 : FP.Core.val64 v3 = .fin false c (-52) := by rw [hv]; exact FP.Core.roundRatio_exact FP.Core.good_b64 Nat.one_pos hfit (by rw [Nat.mul_one])
  have hd : FP.Core.val64 (FP.dsub v3 FP.dconst1) = FP.Core.roundRatio FP.Core.b64 false (c - 4503599627370496) 1 (-52) := by
    rw [show FP.dsub v3 FP.dconst1 = FP.Core.dsub v3 FP.dconst1 from rfl, FP.Core.val64_dsub, hv2, v_one]
    show FP.Core.round FP.Core.b64 (.fin (FP.Core.sumSign false true (FP.Core.signed false (c * 1) + FP.Core.signed (!false) (4503599627370496 * 1))) (FP.Core.signed false (c * 1) + FP.Core.signed (!false) (4503599627370496 * 1)).natAbs (-52)) = _
    rw [Nat.mul_one, Nat.mul_one, signed_diff false hc1, round_signed]
    simp
  rw [if_pos (jnn_iff.mpr (by rw [hd]; exact FP.Core.roundRatio_ne_nan _ _ _ _ _))]
  obtain ⟨j1, j2⟩ := dmulp v_52 hd (by omega) (by decide) (by decide)
  rw [if_pos j1, d2l_rr (T := c - 4503599627370496) (by omega) j2]
  refine ⟨_, rfl, ?_⟩
  have t1023 : (1023 : Int64).toInt = 1023 := by decide
  have h8 : ub (v7 + (1023 : Int64)) = E := by
    have h : (v7 + (1023 : Int64)).toInt = E := by rw [l_add (by rw [t1023]; omega) (by rw [t1023]; omega), t1023]; omega
    have := ub_of_nn (x := v7 + (1023 : Int64)) (by omega)
    omega
  have h9 : ub ((v7 + (1023 : Int64)) <<< ((52 : Int32).toInt64 &&& 63)) = E * 4503599627370496 := by rw [ub_shl _ t_52 (by decide), h8]; omega
  have h10 : ub (sg ||| ((v7 + (1023 : Int64)) <<< ((52 : Int32).toInt64 &&& 63))) = s.toNat * 9223372036854775808 + E * 4503599627370496 := by
    rw [ub_or_sgn (sg_ub hsg) (by omega), hsg, h9]
  rw [ub_or, h10, ub_ofInt (by omega)]
  have : s.toNat * 9223372036854775808 + E * 4503599627370496 = 2 ^ 52 * (s.toNat * 2048 + E) := by omega
  rw [this, n_or_top (by omega)]
theorem bo_142b {v3 : UInt64} {sg v7 : Int64} {c : Nat} {s : Bool} (hc1 : c < 4503599627370496) (hv : FP.Core.val64 v3 = FP.Core.roundRatio FP.Core.b64 false c 1 (-52)) (hsg : ub sg = s.toNat * 9223372036854775808) : ∃ r, f_X12_bitsOf_142 v3 sg v7 = some r ∧ ub r = s.toNat * 9223372036854775808 + c := by
  unfold f_X12_bitsOf_142
  rw [if_neg (fun z => (cmp_rr v_one (by decide) hv (by omega) (by decide) (by decide)).2.mp z (Nat.mul_lt_mul_of_pos_right hc1 (Nat.two_pow_pos _)))]
  obtain ⟨j1, j2⟩ := dmulp v_52 hv (by omega) (by decide) (by decide)
  rw [if_pos j1, d2l_rr (T := c) (by omega) j2]
  refine ⟨_, rfl, ?_⟩
  rw [ub_or_sgn (sg_ub hsg) (by rw [ub_ofInt (by omega)]; omega), hsg, ub_ofInt (by omega)]
theorem bo_60 {w sg : Int64} {s : Bool} (hw : dS w = false) (hn : nN w) (hsg : ub sg = s.toNat * 9223372036854775808) : ∃ r, f_X12_bitsOf_60 w.toUInt64 sg = some r ∧ ub r = s.toNat * 9223372036854775808 + mg w := by
  unfold f_X12_bitsOf_60
  simp only [z_eq]
  unfold nN at hn
  obtain ⟨hE, hT⟩ := dS_ub (x := w)
  by_cases c1 : mg w = 0
  · rw [if_pos c1]; exact ⟨sg, rfl, by rw [hsg, c1]; omega⟩
  · rw [if_neg c1, inf_u]
    have hi : (Op.cmpValue (FP.dcmp w.toUInt64 (9218868437227405312 : Int64).toUInt64) .l = 0) ↔ mg w = 9218868437227405312 := by
      rw [cl_eq, kx_inf]
      unfold kx
      rw [hw]
      simp only [Bool.false_eq_true, if_false]
      exact ⟨fun z => by omega, fun z => ⟨by unfold nN; omega, nN_inf, by omega⟩⟩
    by_cases c2 : mg w = 9218868437227405312
    · rw [if_pos (hi.mpr c2)]
      exact ⟨_, rfl, by rw [ub_or_sgn (sg_ub hsg) (by decide), hsg, ub_infc, c2]⟩
    · rw [if_neg (fun z => c2 (hi.mp z))]
      by_cases c3 : ub w / 4503599627370496 % 2048 = 0
      · have hv : dv w = .fin false (ub w % 4503599627370496) (-1074) := by rw [dv_eq, if_neg (by omega), if_pos c3, hw]
        have hrr : FP.Core.val64 w.toUInt64 = FP.Core.roundRatio FP.Core.b64 false (ub w % 4503599627370496) 1 (-1074) := by
          show dv w = _
          rw [hv]
          exact (FP.Core.roundRatio_exact FP.Core.good_b64 Nat.one_pos (hv ▸ dv_fits w) (by rw [Nat.mul_one])).symm
        have h89 : f_X12_bitsOf_89 1100000 w.toUInt64 sg 0 = f_X12_bitsOf_112 1100000 w.toUInt64 sg 0 := by
          show f_X12_bitsOf_89 (1099999 + 1) _ _ _ = _
          unfold f_X12_bitsOf_89
          rw [if_pos ((cmp_rr v_two (by decide) hrr (by omega) (by decide) (by decide)).1.mpr ?_)]
          have h2 : 2 ^ ((-1074 : Int) + 1074).toNat ≤ 2 ^ ((-51 : Int) + 1074).toNat := Nat.pow_le_pow_right (by decide) (by decide)
          exact Nat.lt_of_le_of_lt (Nat.mul_le_mul_left _ h2) (Nat.mul_lt_mul_of_pos_right (by omega) (Nat.two_pow_pos _))
        rw [h89]
        obtain ⟨v3', v7', g1, g2, g3⟩ := bo_112 (sg := sg) (c := ub w % 4503599627370496) (by omega) 1022 1100000 w.toUInt64 0 (-1074) (by decide) (by decide) (by decide) hrr (by decide) (by decide) (.inr (by decide))
        rw [g1]
        obtain ⟨r, f1, f2⟩ := bo_142b (v7 := v7') (by omega) g2 hsg
        exact ⟨r, f1, by rw [f2]; omega⟩
      · have hv : dv w = .fin false (4503599627370496 + ub w % 4503599627370496) ((ub w / 4503599627370496 % 2048 : Nat) - 1075) := by rw [dv_eq, if_neg (by omega), if_neg c3, hw]
        have hrr : FP.Core.val64 w.toUInt64 = FP.Core.roundRatio FP.Core.b64 false (4503599627370496 + ub w % 4503599627370496) 1 ((ub w / 4503599627370496 % 2048 : Nat) - 1075) := by
          show dv w = _
          rw [hv]
          exact (FP.Core.roundRatio_exact FP.Core.good_b64 Nat.one_pos (hv ▸ dv_fits w) (by rw [Nat.mul_one])).symm
        have hend : ∃ (v3' : UInt64) (v7' : Int64), f_X12_bitsOf_89 1100000 w.toUInt64 sg 0 = f_X12_bitsOf_142 v3' sg v7' ∧ FP.Core.val64 v3' = FP.Core.roundRatio FP.Core.b64 false (4503599627370496 + ub w % 4503599627370496) 1 (-52) ∧ v7'.toInt = ((ub w / 4503599627370496 % 2048 : Nat) : Int) - 1023 := by
          by_cases q : 1023 ≤ ub w / 4503599627370496 % 2048
          · obtain ⟨v3', v7', g1, g2, g3⟩ := bo_89 (sg := sg) (c := 4503599627370496 + ub w % 4503599627370496) (by omega) (by omega) (ub w / 4503599627370496 % 2048 - 1023) 1100000 w.toUInt64 0 _ (by omega) (by omega) (by omega) hrr (by decide) (by rw [t_l0]; omega)
            obtain ⟨v3'', v7'', f1, f2, f3⟩ := bo_112 (sg := sg) (c := 4503599627370496 + ub w % 4503599627370496) (by omega) 0 1100000 v3' v7' (-52) (by decide) (by decide) (by decide) g2 (by rw [g3, t_l0]; omega) (by rw [g3, t_l0]; omega) (.inl (by omega))
            exact ⟨v3'', v7'', by rw [g1, f1], f2, by rw [f3, g3, t_l0]; omega⟩
          · have h89 : f_X12_bitsOf_89 1100000 w.toUInt64 sg 0 = f_X12_bitsOf_112 1100000 w.toUInt64 sg 0 := by
              show f_X12_bitsOf_89 (1099999 + 1) _ _ _ = _
              unfold f_X12_bitsOf_89
              rw [if_pos ((cmp_rr v_two (by decide) hrr (by omega) (by omega) (by omega)).1.mpr ((pow_big (by omega) (by omega) (by omega) (by decide)).mpr (by omega)))]
            obtain ⟨v3'', v7'', f1, f2, f3⟩ := bo_112 (sg := sg) (c := 4503599627370496 + ub w % 4503599627370496) (by omega) (1023 - ub w / 4503599627370496 % 2048) 1100000 w.toUInt64 0 _ (by omega) (by omega) (by omega) hrr (by rw [t_l0]; omega) (by decide) (.inl (by omega))
            exact ⟨v3'', v7'', by rw [h89, f1], f2, by rw [f3, t_l0]; omega⟩
        obtain ⟨v3', v7', g1, g2, g3⟩ := hend
        rw [g1]
        obtain ⟨r, f1, f2⟩ := bo_142a (by omega) (by omega) g2 hsg g3 (by omega)
        exact ⟨r, f1, by rw [f2]; omega⟩
theorem bitsOf_ok {x : Int64} (hx : vcan x) : f_X12_bitsOf x.toUInt64 = some x := by
  by_cases hn : nN x
  · have hsub := mg_sub (x := x)
    have hm : mg x < 9223372036854775808 := Nat.mod_lt _ (by decide)
    -- by the sign
    have hneg : mg x ≠ 0 ∧ dS x = true → f_X12_bitsOf_35 x.toUInt64 1 = some x := by
      rintro ⟨h0, hs⟩
      unfold f_X12_bitsOf_35 f_X12_bitsOf_48
      have hdz := cg_ge (x := x) (y := 0)
      rw [← d0_u, kx_0] at hdz
      rw [if_neg (fun z => hdz.mp z ⟨hn, nN_0, by unfold kx; rw [hs]; simp; omega⟩), if_neg (by decide), dneg_u]
      rw [hs] at hsub
      have hf : ub (x ^^^ (-9223372036854775808 : Int64)) = mg x := by
        rw [ub_xor, show ub (-9223372036854775808 : Int64) = 2 ^ 63 from by decide]
        have := (FP.xor_top (a := ub x) (k := 63) (by have := ub_lt x; omega)).2 (by rw [hsub]; simp)
        rw [this, hsub]; simp
      have hS : dS (x ^^^ (-9223372036854775808 : Int64)) = false := by unfold dS; rw [hf]; exact decide_eq_false (by omega)
      have hM : mg (x ^^^ (-9223372036854775808 : Int64)) = mg x := by unfold mg; rw [hf]; unfold mg; omega
      obtain ⟨r, g1, g2⟩ := bo_60 (w := x ^^^ (-9223372036854775808 : Int64)) (sg := -9223372036854775808) (s := true) hS (by unfold nN; rw [hM]; exact hn) (by decide)
      rw [g1]
      congr 1
      rw [ub_inj, g2, hM, hsub]
    have hpos : dS x = false → f_X12_bitsOf_35 x.toUInt64 0 = some x := by
      intro hs
      unfold f_X12_bitsOf_35 f_X12_bitsOf_48
      have hdz := cg_ge (x := x) (y := 0)
      rw [← d0_u, kx_0] at hdz
      rw [if_pos (hdz.mpr (fun z => by have := z.2.2; unfold kx at this; rw [hs] at this; simp at this; omega)), if_pos rfl]
      obtain ⟨r, g1, g2⟩ := bo_60 (w := x) (sg := 0) (s := false) hs hn (by decide)
      rw [g1]
      congr 1
      rw [ub_inj, g2, hsub, hs]
    unfold f_X12_bitsOf f_X12_bitsOf_30 f_X12_bitsOf_34
    have hl := cg_lt (x := x) (y := 0)
    rw [← d0_u, kx_0] at hl
    simp only [self_eq, hl, z_eq]
    rw [if_pos hn]
    by_cases h0 : mg x = 0
    · rw [if_neg (by rintro ⟨-, -, z⟩; rw [kx_zero.mpr h0] at z; omega), if_pos h0]
      rcases sub_cases h0 with h | h
      · subst h
        rw [if_pos (by decide +kernel), if_pos (by decide +kernel)]
        exact hpos (by decide)
      · subst h
        rw [if_pos (by decide +kernel), if_neg (by decide +kernel)]
        unfold f_X12_bitsOf_35 f_X12_bitsOf_48 f_X12_bitsOf_60
        rw [if_pos (by decide +kernel), if_neg (by decide), if_pos (by decide +kernel)]
    · cases hs : dS x
      · rw [if_neg (by rintro ⟨-, -, z⟩; unfold kx at z; rw [hs] at z; simp at z; omega), if_neg h0]
        exact hpos hs
      · rw [if_pos ⟨hn, nN_0, by unfold kx; rw [hs]; simp; omega⟩]
        exact hneg ⟨h0, hs⟩
  · have := nan_is hx hn
    subst this
    unfold f_X12_bitsOf
    rw [if_neg (by decide +kernel)]

/-! PURE: operators on numbers -/
theorem o_minus (x y : Int64) : ∃ r, f_X5_plus x (y ^^^ (-9223372036854775808 : Int64)) = some r ∧ f_X12_minus x.toUInt64 y.toUInt64 = some r.toUInt64 ∧ vcan r := by
  obtain ⟨r, g1, g2, g3⟩ := plus_ok x (y ^^^ (-9223372036854775808 : Int64))
  refine ⟨r, g1, ?_, can_of g2⟩
  have hny : dv (y ^^^ (-9223372036854775808 : Int64)) = FP.Core.negate (dv y) := by
    show FP.Core.val64 (y ^^^ (-9223372036854775808 : Int64)).toUInt64 = _
    rw [← dneg_u, FP.val64_dneg]; rfl
  rw [hny] at g3
  have g3' : FP.Core.val64 (FP.dsub x.toUInt64 y.toUInt64) = dv r := by rw [g3]; exact FP.Core.val64_dsub _ _
  have nanc : dv r = .nan → some (9221120237041090560 : UInt64) = some r.toUInt64 := by
    intro h
    rcases g2 with g2 | g2
    · rw [g2, nan_u]
    · exact absurd h g2
  have numc : dv r ≠ .nan → f_X12_minus_37 x.toUInt64 y.toUInt64 0 = some r.toUInt64 := by
    intro h
    obtain ⟨k1, k2⟩ := fin_op g3' h
    unfold f_X12_minus_37
    rw [if_pos rfl, if_pos k1, k2]
  have hnan : dv r = .nan ↔ (¬ nN x ∨ ¬ nN y ∨ (mg x = 9218868437227405312 ∧ mg y = 9218868437227405312 ∧ kx x = kx y)) := by
    rw [g3, FP.Core.round_nan, FP.Core.exactSum_nan, FP.Core.negate_nan, dv_nan, dv_nan]
    constructor
    · rintro (h | h | ⟨s, h1, h2⟩)
      · exact .inl (by omega)
      · exact .inr (.inl (by omega))
      · have m1 := inf_of h1
        have h2' : dv y = .inf s := by
          have := congrArg FP.Core.negate h2
          rw [FP.Core.negate_negate] at this
          rw [this]
          show FP.Core.Datum.inf (!(!s)) = .inf s
          rw [Bool.not_not]
        have m2 := inf_of h2'
        refine .inr (.inr ⟨m1, m2, ?_⟩)
        rw [dv_inf m1] at h1
        rw [dv_inf m2] at h2'
        injection h1 with h1
        injection h2' with h2'
        unfold kx
        rw [h1, h2', m1, m2]
    · rintro (h | h | ⟨h1, h2, h3⟩)
      · exact .inl (by omega)
      · exact .inr (.inl (by omega))
      · refine .inr (.inr ⟨dS x, dv_inf h1, ?_⟩)
        rw [dv_inf h2]
        show FP.Core.Datum.inf (!(dS y)) = _
        congr 1
        unfold kx at h3
        rw [h1, h2] at h3
        revert h3
        cases dS x <;> cases dS y <;> decide
  unfold f_X12_minus f_X12_minus_36 f_X12_minus_32
  simp only [self_eq, endl_ok, cl_eq]
  have e37 : f_X12_minus_37 x.toUInt64 y.toUInt64 1 = some (9221120237041090560 : UInt64) := by unfold f_X12_minus_37; rw [if_neg (by decide)]
  rw [e37]
  by_cases h1 : nN x
  · by_cases h2 : nN y
    · rw [if_pos h1, if_pos h2]
      by_cases c1 : mg x = 9218868437227405312
      · rw [if_pos c1, if_neg (by decide)]
        by_cases c2 : mg y = 9218868437227405312
        · rw [if_pos c2, if_neg (by decide)]
          by_cases c3 : kx x = kx y
          · rw [if_pos ⟨h1, h2, c3⟩]; exact nanc (hnan.mpr (.inr (.inr ⟨c1, c2, c3⟩)))
          · rw [if_neg (fun z => c3 z.2.2)]; exact numc (fun z => by rcases hnan.mp z with q | q | q; exact q h1; exact q h2; exact c3 q.2.2)
        · rw [if_neg c2, if_pos rfl]; exact numc (fun z => by rcases hnan.mp z with q | q | q; exact q h1; exact q h2; exact c2 q.2.1)
      · rw [if_neg c1, if_pos rfl]; exact numc (fun z => by rcases hnan.mp z with q | q | q; exact q h1; exact q h2; exact c1 q.1)
    · rw [if_pos h1, if_neg h2]; exact nanc (hnan.mpr (.inr (.inl h2)))
  · rw [if_neg h1]; exact nanc (hnan.mpr (.inl h1))
theorem VR_num0 {n : Int} {C R : jM} {v s : Nat} (h : VR n C v R s) (h0 : jI C 52 v = 0) : jAL C (v + 1) 0 = jAL R 2401 (12 * s) := by
  obtain ⟨-, -, -, h4⟩ := h
  have := h4 0 (by unfold vlen; rw [h0, if_neg (by decide)]; decide)
  unfold vitem at this
  rw [h0, if_neg (by decide)] at this
  exact this.1
theorem VR_num1 {n : Int} {C R : jM} {v s : Nat} (h : VR n C v R s) (h0 : jI C 52 v = 1) : jAD R 2402 (12 * s) = (jAL C (v + 1) 0).toUInt64 ∧ vcan (jAL C (v + 1) 0) := by
  obtain ⟨-, -, -, h4⟩ := h
  have := h4 0 (by unfold vlen; rw [h0, if_neg (by decide)]; decide)
  unfold vitem at this
  rw [h0, if_pos (by decide)] at this
  exact this
theorem VR_so {n : Int} {C R : jM} {v s : Nat} (h : VR n C v R s) : jAI R 2399 s = jI C 52 v ∧ jAI R 2400 s = jI C 53 v ∧ vshape (jI C 52 v) (jI C 53 v) := ⟨h.1.symm, h.2.1.symm, h.2.2.1⟩
theorem so01 {so : Int32} (h : 0 ≤ so.toInt) (h2 : so.toInt < 2) : so = 0 ∨ so = 1 := by
  rw [i_eq, i_eq, t_0, show (1 : Int32).toInt = 1 from rfl]; omega
theorem n_real {w : Int64} : ∃ r, f_X5_nearest w = some r ∧ FP.l2d w = r.toUInt64 ∧ vcan r := by
  obtain ⟨r, g1, g2, g3⟩ := nearest_ok w
  exact ⟨r, g1, dv_inj g3.symm g2, can_of (.inr g2)⟩
/-- a number as a double -/
theorem asR {n : Int} {C R : jM} (hR : Lay R) {v s : Nat} (h : VR n C v R s) (hs : s < 1500) (h2 : (jI C 52 v).toInt < 2) : ∃ r, (if jI C 52 v = 1 then some (jAL C (v + 1) 0) else f_X5_nearest (jAL C (v + 1) 0)) = some r ∧ f_X12_asReal 2398 (nI s) R = some r.toUInt64 ∧ vcan r := by
  obtain ⟨e1, e2, e3⟩ := VR_so h
  obtain ⟨p1, p2, p3⟩ := apn hs
  unfold f_X12_asReal
  simp only [k_2398, ly_88 hR, ly_90 hR, ly_91 hR, p1, p3, e1, (a12p hs).1, (a12p hs).2, c12p hs, true_and, and_true, and_false, false_and, and_self, if_true, if_false, ite_self, Nat.reduceEqDiff, reduceIte, obt, jlt, jbt, jbd_ite, bind_ite]
  rcases so01 e3.1 h2 with c | c
  · obtain ⟨r, g1, g2, g3⟩ := n_real (w := jAL C (v + 1) 0)
    rw [if_neg (by rw [c]; decide), if_neg (by rw [c]; decide), ← VR_num0 h c, g2]
    exact ⟨r, g1, rfl, g3⟩
  · obtain ⟨g1, g2⟩ := VR_num1 h c
    rw [if_pos c, if_pos c, g1]
    exact ⟨_, rfl, rfl, g2⟩
theorem m_div (a b : Int) (hb : b ≠ 0) (s : Int) (hs : s = (a * b).bmod 18446744073709551616) (hd : s.tdiv b = a) (hb2 : b.natAbs ≤ 9223372036854775808) : s = a * b := by
  have h1 : (a * b - s).natAbs < 9223372036854775808 := by
    have h2 := Int.tmod_add_mul_tdiv s b
    rw [hd] at h2
    have h3 : (s.tmod b).natAbs < b.natAbs := by
      rw [Int.natAbs_tmod]
      exact Nat.mod_lt _ (by omega)
    rw [Int.mul_comm b a] at h2
    omega
  rw [Int.bmod_def] at hs
  omega
theorem mul_rng {a b : Int64} (hb : b ≠ 0) : ((a * b) / b = a ∧ ¬ (a = -9223372036854775808 ∧ b = -1)) ↔ (-9223372036854775808 ≤ a.toInt * b.toInt ∧ a.toInt * b.toInt ≤ 9223372036854775807) := by
  have hb0 : b.toInt ≠ 0 := fun z => hb (by rw [l_eq]; exact z)
  have ra := l_rng a
  have rb := l_rng b
  have tL : (-9223372036854775808 : Int64).toInt = -9223372036854775808 := by decide
  constructor
  · rintro ⟨h1, h2⟩
    by_cases c : b = -1
    · have : a.toInt ≠ -9223372036854775808 := fun z => h2 ⟨by rw [l_eq, tL]; exact z, c⟩
      rw [c, t_lm1]; omega
    · rw [l_eq, Int64.toInt_div_of_ne_right _ _ c, Int64.toInt_mul] at h1
      have := m_div a.toInt b.toInt hb0 _ rfl h1 (by omega)
      have h3 : -9223372036854775808 ≤ (a.toInt * b.toInt).bmod (2 ^ 64) ∧ (a.toInt * b.toInt).bmod (2 ^ 64) ≤ 9223372036854775807 := by
        rw [← Int64.toInt_mul]; exact l_rng _
      rw [show (18446744073709551616 : Nat) = 2 ^ 64 from rfl] at this
      omega
  · rintro ⟨h1, h2⟩
    have hm : (a * b).toInt = a.toInt * b.toInt := FP.Core.int64_mul (by omega) (by omega)
    refine ⟨?_, ?_⟩
    · by_cases c : b = -1
      · rw [c] at hm h1 h2 ⊢
        rw [t_lm1] at h1 h2
        rw [l_eq, Int64.toInt_div, hm, t_lm1, Int.tdiv_neg, Int.tdiv_one]
        rw [show -(a.toInt * -1) = a.toInt by omega]
        exact Int.bmod_eq_of_le (by omega) (by omega)
      · rw [l_eq, Int64.toInt_div_of_ne_right _ _ c, hm, Int.mul_tdiv_cancel _ hb0]
    · rintro ⟨z1, z2⟩
      rw [z1, z2, tL, t_lm1] at h2
      omega
/-- whole numbers -/
theorem whole_eq {k k' : Int32} (hk : (k = 43 ∧ k' = 143) ∨ (k = 45 ∧ k' = 145) ∨ (k = 42 ∧ k' = 142) ∨ (k = 47 ∧ k' = 147) ∨ (k = 37 ∧ k' = 137)) (a b : Int64) (R : jM) :
    (f_X3_isBeyond k a b = some 1 ∧ f_X12_whole 2398 k' a b R = f_X12_failing 2398 6 R) ∨ (f_X3_isBeyond k a b = some 0 ∧ ∃ w, f_X3_wholeArithmetic k a b = some w ∧ f_X12_whole 2398 k' a b R = f_X12_ofWhole 2398 w R) := by
  have jid : ∀ o : Option (Int32 × jM), jbd o (fun x S => some (x, S)) = o := fun o => by cases o <;> rfl
  rcases hk with ⟨rfl, rfl⟩ | ⟨rfl, rfl⟩ | ⟨rfl, rfl⟩ | ⟨rfl, rfl⟩ | ⟨rfl, rfl⟩
  · unfold f_X3_isBeyond f_X3_wholeArithmetic f_X12_whole
    simp only [show ((43 : Int32) = 42) = False from by decide, show ((143 : Int32) = 143) = True from by decide, show ((43 : Int32) = 43) = True from by decide, k_2398, jid, true_and, and_true, and_false, false_and, and_self, if_true, if_false, ite_self, Nat.reduceEqDiff, reduceIte, obt, jlt, jbt, jbd_ite, bind_ite]
    by_cases c : (0 : Int64) ≤ ((a ^^^ (a + b)) &&& (b ^^^ (a + b)))
    · rw [if_pos c, if_pos c]; exact .inr ⟨rfl, _, rfl, rfl⟩
    · rw [if_neg c, if_neg c]; exact .inl ⟨rfl, rfl⟩
  · unfold f_X3_isBeyond f_X3_wholeArithmetic f_X12_whole
    simp only [show ((45 : Int32) = 42) = False from by decide, show ((45 : Int32) = 43) = False from by decide, show ((145 : Int32) = 143) = False from by decide, show ((145 : Int32) = 145) = True from by decide, show ((45 : Int32) = 45) = True from by decide, k_2398, jid, true_and, and_true, and_false, false_and, and_self, if_true, if_false, ite_self, Nat.reduceEqDiff, reduceIte, obt, jlt, jbt, jbd_ite, bind_ite]
    by_cases c : (0 : Int64) ≤ ((a ^^^ b) &&& (a ^^^ (a - b)))
    · rw [if_pos c, if_pos c]; exact .inr ⟨rfl, _, rfl, rfl⟩
    · rw [if_neg c, if_neg c]; exact .inl ⟨rfl, rfl⟩
  · unfold f_X3_isBeyond f_X3_wholeArithmetic f_X12_whole f_X3_isBeyond_106 f_X12_whole_121 f_X12_whole_122 f_X12_whole_154 f_X12_whole_145
    simp only [show ((142 : Int32) = 143) = False from by decide, show ((142 : Int32) = 145) = False from by decide, show ((142 : Int32) = 142) = True from by decide, show ((42 : Int32) = 42) = True from by decide, show ((1 : Int32) = 0) = False from by decide, k_2398, jid, true_and, and_true, and_false, false_and, and_self, if_true, if_false, ite_self, Nat.reduceEqDiff, reduceIte, obt, jlt, jbt, jbd_ite, bind_ite]
    have hcl : (if b = 0 then some (0 : Int32) else if ¬ b = 0 then if a * b / b = a then if a = -9223372036854775808 then if b = -1 then some (1 : Int32) else some 0 else some 0 else some 1 else none) = if (-9223372036854775808 ≤ a.toInt * b.toInt ∧ a.toInt * b.toInt ≤ 9223372036854775807) then some 0 else some 1 := by
      by_cases c0 : b = 0
      · rw [if_pos c0, if_pos (by rw [c0, t_l0]; omega)]
      · rw [if_neg c0, if_pos c0]
        have h := mul_rng (a := a) c0
        by_cases c1 : a * b / b = a
        · rw [if_pos c1]
          by_cases c2 : a = -9223372036854775808
          · rw [if_pos c2]
            by_cases c3 : b = -1
            · rw [if_pos c3, if_neg (fun z => (h.mpr z).2 ⟨c2, c3⟩)]
            · rw [if_neg c3, if_pos (h.mp ⟨c1, fun z => c3 z.2⟩)]
          · rw [if_neg c2, if_pos (h.mp ⟨c1, fun z => c2 z.1⟩)]
        · rw [if_neg c1, if_neg (fun z => c1 (h.mpr z).1)]
    have hcr : (if a = -1 then if b = -9223372036854775808 then if a = 0 then f_X12_ofWhole 2398 (a * b) R else f_X12_failing 2398 6 R else if a = 0 then f_X12_ofWhole 2398 (a * b) R else if ¬ a = 0 then if a * b / a = b then f_X12_ofWhole 2398 (a * b) R else f_X12_failing 2398 6 R else none else if a = 0 then f_X12_ofWhole 2398 (a * b) R else if ¬ a = 0 then if a * b / a = b then f_X12_ofWhole 2398 (a * b) R else f_X12_failing 2398 6 R else none) = if (-9223372036854775808 ≤ a.toInt * b.toInt ∧ a.toInt * b.toInt ≤ 9223372036854775807) then f_X12_ofWhole 2398 (a * b) R else f_X12_failing 2398 6 R := by
      by_cases c0 : a = 0
      · have : ¬ a = -1 := by rw [c0]; decide
        rw [if_neg this, if_pos c0, if_pos (by rw [c0, t_l0]; omega)]
      · have h := mul_rng (a := b) c0
        rw [Int.mul_comm b.toInt, Int64.mul_comm b] at h
        simp only [if_neg c0, if_pos c0]
        by_cases c1 : a = -1
        · rw [if_pos c1]
          by_cases c2 : b = -9223372036854775808
          · rw [if_pos c2, if_neg (fun z => (h.mpr z).2 ⟨c2, c1⟩)]
          · rw [if_neg c2]
            by_cases c3 : a * b / a = b
            · rw [if_pos c3, if_pos (h.mp ⟨c3, fun z => c2 z.1⟩)]
            · rw [if_neg c3, if_neg (fun z => c3 (h.mpr z).1)]
        · rw [if_neg c1]
          by_cases c3 : a * b / a = b
          · rw [if_pos c3, if_pos (h.mp ⟨c3, fun z => c1 z.2⟩)]
          · rw [if_neg c3, if_neg (fun z => c3 (h.mpr z).1)]
    rw [hcl, hcr]
    by_cases c : (-9223372036854775808 ≤ a.toInt * b.toInt ∧ a.toInt * b.toInt ≤ 9223372036854775807)
    · rw [if_pos c, if_pos c]; exact .inr ⟨rfl, _, rfl, rfl⟩
    · rw [if_neg c, if_neg c]; exact .inl ⟨rfl, rfl⟩
  · unfold f_X3_isBeyond f_X3_wholeArithmetic f_X12_whole f_X12_whole_194
    simp only [show ((47 : Int32) = 42) = False from by decide, show ((47 : Int32) = 43) = False from by decide, show ((47 : Int32) = 45) = False from by decide, show ((47 : Int32) = 47) = True from by decide, show ((147 : Int32) = 143) = False from by decide, show ((147 : Int32) = 145) = False from by decide, show ((147 : Int32) = 142) = False from by decide, show ((147 : Int32) = 147) = True from by decide, k_2398, jid, true_and, and_true, and_false, false_and, and_self, if_true, if_false, ite_self, Nat.reduceEqDiff, reduceIte, obt, jlt, jbt, jbd_ite, bind_ite]
    by_cases c : b = 0
    · rw [if_pos c, if_pos c]; exact .inl ⟨rfl, rfl⟩
    · rw [if_neg c, if_neg c, if_neg c, if_pos c, if_pos c]; exact .inr ⟨rfl, _, rfl, rfl⟩
  · unfold f_X3_isBeyond f_X3_wholeArithmetic f_X12_whole f_X12_whole_194
    simp only [show ((37 : Int32) = 42) = False from by decide, show ((37 : Int32) = 43) = False from by decide, show ((37 : Int32) = 45) = False from by decide, show ((37 : Int32) = 47) = False from by decide, show ((137 : Int32) = 143) = False from by decide, show ((137 : Int32) = 145) = False from by decide, show ((137 : Int32) = 142) = False from by decide, show ((137 : Int32) = 147) = False from by decide, k_2398, jid, true_and, and_true, and_false, false_and, and_self, if_true, if_false, ite_self, Nat.reduceEqDiff, reduceIte, obt, jlt, jbt, jbd_ite, bind_ite]
    by_cases c : b = 0
    · rw [if_pos c, if_pos c]; exact .inl ⟨rfl, rfl⟩
    · rw [if_neg c, if_neg c, if_neg c, if_pos c, if_pos c]; exact .inr ⟨rfl, _, rfl, rfl⟩

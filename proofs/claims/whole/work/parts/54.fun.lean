/-! PURE: functions of one VALUE; an item -/
theorem opr_new {n : Int} {C C' R R' : jM} {v p : Nat} (hC : Fr (pV v) C C') (hR : Fr qK R R') (hq : jI R' 92 2398 = nI (p + 1)) (h6 : jI R' 126 2398 = jI R 126 2398) (h7 : jI R' 127 2398 = jI R 127 2398) (hs : ∀ s, s < p → sS R R' s) (hv : VR n C' v R' p) (hp2 : p < 1500) : OpR n C C' v R R' p 0 (nI p) :=
  ⟨hC, hR, hs, .inl ⟨rfl, p, p + 1, nI_toInt (by omega), ⟨by omega, fun z => absurd z (by omega)⟩, by omega, by omega, hq, hv, h6, h7⟩⟩
theorem opr_same {n : Int} {C R : jM} {v p s : Nat} (hp : jI R 92 2398 = nI p) (hs : s < p ∧ (s ≤ 200 ∨ 226 ≤ s)) (hp2 : p < 1500) (hv : VR n C v R s) : OpR n C C v R R p 0 (nI s) :=
  ⟨Fr.refl, Fr.refl, fun _ _ => ⟨rfl, rfl, fun _ _ => ⟨rfl, rfl⟩⟩, .inl ⟨rfl, s, p, nI_toInt (by omega), ⟨hs.1, fun _ => hs.2⟩, by omega, by omega, hp, hv, rfl, rfl⟩⟩
theorem c_isR1 {C : jM} {v : Nat} (hk : jK v = 7) (h : 2 ≤ (jI C 52 v).toInt ∧ (jI C 52 v).toInt ≤ 7) : f_X9_isRow v C = some 1 := by rw [isRow_ok hk, if_pos h]
theorem c_isR0 {C : jM} {v : Nat} (hk : jK v = 7) (h : ¬ (2 ≤ (jI C 52 v).toInt ∧ (jI C 52 v).toInt ≤ 7)) : f_X9_isRow v C = some 0 := by rw [isRow_ok hk, if_neg h]
theorem c_isK1 {C : jM} {v : Nat} (hk : jK v = 7) (h : 5 ≤ (jI C 52 v).toInt ∧ (jI C 52 v).toInt ≤ 7) : f_X9_isKin v C = some 1 := by rw [isKin_ok hk, if_pos h]
theorem c_isK0 {C : jM} {v : Nat} (hk : jK v = 7) (h : ¬ (5 ≤ (jI C 52 v).toInt ∧ (jI C 52 v).toInt ≤ 7)) : f_X9_isKin v C = some 0 := by rw [isKin_ok hk, if_neg h]
theorem m_isR {so : Int32} : f_X12_isRow so = if 2 ≤ so.toInt ∧ so.toInt ≤ 7 then 1 else 0 := by
  unfold f_X12_isRow
  simp only [i_lt, i_le, show (2 : Int32).toInt = 2 from rfl, show (7 : Int32).toInt = 7 from rfl]
  split
  · rw [if_neg (by omega)]
  · split
    · rw [if_neg (by omega)]
    · rw [if_pos (by omega)]
theorem m_isK {so : Int32} : f_X12_isKin so = if 5 ≤ so.toInt ∧ so.toInt ≤ 7 then 1 else 0 := by
  unfold f_X12_isKin
  simp only [i_lt, i_le, show (5 : Int32).toInt = 5 from rfl, show (7 : Int32).toInt = 7 from rfl]
  split
  · rw [if_neg (by omega)]
  · split
    · rw [if_neg (by omega)]
    · rw [if_pos (by omega)]
theorem a_len {n : Int} {C R : jM} {a sa p : Nat} (hC : Lay C) (hR : Lay R) (ka : jK a = 7) (ha : VR n C a R sa) (hp : jI R 92 2398 = nI p) (hp2 : p < 1500) (hsa : sa < p) : ∃ fl x C' R', f_X3_len a C = some (fl, C') ∧ f_X12_function 2398 11 (nI sa) R = some (x, R') ∧ OpR n C C' a R R' p fl x := by
  obtain ⟨ea1, ea2, ea3⟩ := VR_so ha
  obtain ⟨pa1, pa2, pa3⟩ := apn (show sa < 1500 by omega)
  have A1 : jA (a + 1) 14 (0 : Int32) = true := jAz (kd_val ka).1 (by rw [(kd_val ka).2]; decide)
  have qa := a12p (show sa < 1500 by omega)
  have za := c12p (show sa < 1500 by omega)
  have ia : (nI sa).toInt = sa := nI_toInt (by omega)
  by_cases ca : 2 ≤ (jI C 52 a).toInt ∧ (jI C 52 a).toInt ≤ 7
  · obtain ⟨C', R', d1, d2, d3⟩ := whole_done (n := n) hC hR ka hp hp2 (jI C 53 a).toInt64
    refine ⟨_, _, C', R', ?_, ?_, d3⟩
    · unfold f_X3_len
      simp only [ka, k_2398, ly_v hC ka, A1, cl0, ly_88 hR, ly_89 hR, ly_90 hR, ly_91 hR, pa1, pa2, pa3, ea1, ea2, qa.1, qa.2, za, jid, i10, c_isR1 ka ca, true_and, and_true, and_false, false_and, and_self, if_true, if_false, ite_self, Nat.reduceEqDiff, reduceIte, obt, jlt, jbt, jbd_ite, bind_ite]
      exact d1
    · unfold f_X12_function
      simp only [ka, k_2398, ly_v hC ka, A1, cl0, ly_88 hR, ly_89 hR, ly_90 hR, ly_91 hR, pa1, pa2, pa3, ea1, ea2, qa.1, qa.2, za, jid, i10, m_isR, ca, show ((11 : Int32) = 2) = False from by decide, show ((11 : Int32) = 11) = True from by decide, true_and, and_true, and_false, false_and, and_self, if_true, if_false, ite_self, Nat.reduceEqDiff, reduceIte, obt, jlt, jbt, jbd_ite, bind_ite]
      exact d2
  · obtain ⟨R', d1, d2⟩ := fail_done (n := n) (C := C) (a := a) (fl := 2) hp (by decide)
    refine ⟨_, _, _, R', ?_, ?_, d2⟩
    · unfold f_X3_len
      simp only [ka, k_2398, ly_v hC ka, A1, cl0, ly_88 hR, ly_89 hR, ly_90 hR, ly_91 hR, pa1, pa2, pa3, ea1, ea2, qa.1, qa.2, za, jid, i10, c_isR0 ka ca, true_and, and_true, and_false, false_and, and_self, if_true, if_false, ite_self, Nat.reduceEqDiff, reduceIte, obt, jlt, jbt, jbd_ite, bind_ite]
    · unfold f_X12_function
      simp only [ka, k_2398, ly_v hC ka, A1, cl0, ly_88 hR, ly_89 hR, ly_90 hR, ly_91 hR, pa1, pa2, pa3, ea1, ea2, qa.1, qa.2, za, jid, i10, m_isR, ca, show ((11 : Int32) = 2) = False from by decide, show ((11 : Int32) = 11) = True from by decide, true_and, and_true, and_false, false_and, and_self, if_true, if_false, ite_self, Nat.reduceEqDiff, reduceIte, obt, jlt, jbt, jbd_ite, bind_ite]
      exact d1
theorem a_whole {n : Int} {C R : jM} {a sa p : Nat} (hC : Lay C) (hR : Lay R) (ka : jK a = 7) (ha : VR n C a R sa) (hp : jI R 92 2398 = nI p) (hp2 : p < 1500) (hsa : sa < p) (hga : sa ≤ 200 ∨ 226 ≤ sa) : ∃ fl x C' R', f_X3_whole a C = some (fl, C') ∧ f_X12_function 2398 23 (nI sa) R = some (x, R') ∧ OpR n C C' a R R' p fl x := by
  obtain ⟨ea1, ea2, ea3⟩ := VR_so ha
  obtain ⟨pa1, pa2, pa3⟩ := apn (show sa < 1500 by omega)
  have A1 : jA (a + 1) 14 (0 : Int32) = true := jAz (kd_val ka).1 (by rw [(kd_val ka).2]; decide)
  have qa := a12p (show sa < 1500 by omega)
  have za := c12p (show sa < 1500 by omega)
  have ia : (nI sa).toInt = sa := nI_toInt (by omega)
  by_cases ca : (jI C 52 a).toInt < 2
  · rcases so01 ea3.1 ca with c1 | c1
    · refine ⟨_, _, C, R, ?_, ?_, opr_same hp ⟨hsa, hga⟩ hp2 ha⟩
      · unfold f_X3_whole
        simp only [ka, k_2398, ly_v hC ka, A1, cl0, ly_88 hR, ly_89 hR, ly_90 hR, ly_91 hR, pa1, pa2, pa3, ea1, ea2, qa.1, qa.2, za, jid, i10, c_isn1 ka ea3.1 ca, c1, show ((0 : Int32) = 1) = False from by decide, true_and, and_true, and_false, false_and, and_self, if_true, if_false, ite_self, Nat.reduceEqDiff, reduceIte, obt, jlt, jbt, jbd_ite, bind_ite]
      · unfold f_X12_function
        simp only [ka, k_2398, ly_v hC ka, A1, cl0, ly_88 hR, ly_89 hR, ly_90 hR, ly_91 hR, pa1, pa2, pa3, ea1, ea2, qa.1, qa.2, za, jid, i10, c1, show f_X12_isNumber 0 = 1 from by decide, show ((23 : Int32) = 2) = False from by decide, show ((23 : Int32) = 11) = False from by decide, show ((23 : Int32) = 25) = False from by decide, show ((23 : Int32) = 23) = True from by decide, true_and, and_true, and_false, false_and, and_self, if_true, if_false, ite_self, Nat.reduceEqDiff, reduceIte, obt, jlt, jbt, jbd_ite, bind_ite]
    · obtain ⟨v1, v2⟩ := VR_num1 ha c1
      obtain ⟨C', R', d1, d2, d3⟩ := whole_done (n := n) hC hR ka hp hp2 (f_X5_cutOff (jAL C (a + 1) 0))
      refine ⟨_, _, C', R', ?_, ?_, d3⟩
      · unfold f_X3_whole
        simp only [ka, k_2398, ly_v hC ka, A1, cl0, ly_88 hR, ly_89 hR, ly_90 hR, ly_91 hR, pa1, pa2, pa3, ea1, ea2, qa.1, qa.2, za, jid, i10, c_isn1 ka ea3.1 ca, c1, show ((1 : Int32) = 1) = True from by decide, true_and, and_true, and_false, false_and, and_self, if_true, if_false, ite_self, Nat.reduceEqDiff, reduceIte, obt, jlt, jbt, jbd_ite, bind_ite]
        exact d1
      · unfold f_X12_function
        simp only [ka, k_2398, ly_v hC ka, A1, cl0, ly_88 hR, ly_89 hR, ly_90 hR, ly_91 hR, pa1, pa2, pa3, ea1, ea2, qa.1, qa.2, za, jid, i10, c1, v1, show f_X12_isNumber 1 = 1 from by decide, show ((23 : Int32) = 2) = False from by decide, show ((23 : Int32) = 11) = False from by decide, show ((23 : Int32) = 25) = False from by decide, show ((23 : Int32) = 23) = True from by decide, ← cutOff_ok, true_and, and_true, and_false, false_and, and_self, if_true, if_false, ite_self, Nat.reduceEqDiff, reduceIte, obt, jlt, jbt, jbd_ite, bind_ite]
        exact d2
  · obtain ⟨R', d1, d2⟩ := fail_done (n := n) (C := C) (a := a) (fl := 2) hp (by decide)
    refine ⟨_, _, _, R', ?_, ?_, d2⟩
    · unfold f_X3_whole
      simp only [ka, k_2398, ly_v hC ka, A1, cl0, ly_88 hR, ly_89 hR, ly_90 hR, ly_91 hR, pa1, pa2, pa3, ea1, ea2, qa.1, qa.2, za, jid, i10, c_isn0 ka ca, true_and, and_true, and_false, false_and, and_self, if_true, if_false, ite_self, Nat.reduceEqDiff, reduceIte, obt, jlt, jbt, jbd_ite, bind_ite]
    · unfold f_X12_function
      simp only [ka, k_2398, ly_v hC ka, A1, cl0, ly_88 hR, ly_89 hR, ly_90 hR, ly_91 hR, pa1, pa2, pa3, ea1, ea2, qa.1, qa.2, za, jid, i10, m_isn0 ca, show ((23 : Int32) = 2) = False from by decide, show ((23 : Int32) = 11) = False from by decide, show ((23 : Int32) = 25) = False from by decide, true_and, and_true, and_false, false_and, and_self, if_true, if_false, ite_self, Nat.reduceEqDiff, reduceIte, obt, jlt, jbt, jbd_ite, bind_ite]
      exact d1
theorem below_nN {y : Int64} (h : nN y) : nN (f_X5_below y) := by
  have hP := power_int y
  have t52 : (52 : Int32).toInt = 52 := by decide
  have hm : mg y < 9223372036854775808 := Nat.mod_lt _ (by decide)
  obtain ⟨hE, hT⟩ := dS_ub (x := y)
  have hsub := mg_sub (x := y)
  unfold nN at h ⊢
  by_cases c1 : 4841369599423283200 ≤ mg y
  · have : f_X5_below y = y := by
      unfold f_X5_below
      simp only [jlet]
      rw [if_neg (by rw [i_lt, hP, t52]; omega)]
    rw [this]; exact h
  · by_cases c2 : mg y < 4607182418800017408
    · unfold f_X5_below f_X5_below_31
      simp only [jlet]
      rw [if_pos (by rw [i_lt, hP, t52]; omega), if_neg (by rw [i_le, hP, t_0]; omega)]
      have hz : mg (y &&& (-9223372036854775808 : Int64)) ≤ 9218868437227405312 := by
        unfold mg; rw [ub_sg]; cases dS y <;> decide
      split
      · exact hz
      · split
        · exact hz
        · decide
    · obtain ⟨k, hkk⟩ : ∃ k : Nat, ((ub y / 4503599627370496 % 2048 : Nat) : Int) - 1075 = -(k : Int) := ⟨(1075 - (ub y / 4503599627370496 % 2048 : Nat)), by omega⟩
      have hb := below_bits hkk (by omega) (by omega)
      have hpk : 2 ^ k ≤ 2 ^ 52 := Nat.pow_le_pow_right (by decide) (by omega)
      have hml := Nat.mod_lt (ub y) (Nat.two_pow_pos k)
      have hmle := Nat.mod_le (ub y) (2 ^ k)
      generalize ub y % 2 ^ k = r at *
      unfold mg
      rw [hb]
      have hmge : r ≤ mg y := by omega
      cases hs : dS y <;> rw [hs] at hsub <;> simp only [Bool.toNat_true, Bool.toNat_false] at hsub <;> split <;> omega
theorem real_fun {k k' : Int32} (hk : (k = 143 ∧ k' = 16) ∨ (k = 133 ∧ k' = 6) ∨ (k = 130 ∧ k' = 3) ∨ (k = 141 ∧ k' = 14) ∨ (k = 144 ∧ k' = 17)) {C R : jM} {a : Nat} (ka : jK a = 7) {x : Int64} (hx : vcan x) :
    ∃ r, vcan r ∧ f_X3_real_35 k a x C = (f_X9_setNumber a 1 r C).bind (fun S => some ((0 : Int32), S)) ∧ (if k' = (16 : Int32) then f_X12_function_263 2398 x.toUInt64 R else if k' = (6 : Int32) then (f_X12_floor x.toUInt64).bind (fun x29 => f_X12_function_263 2398 x29 R) else if k' = (3 : Int32) then if (Op.cmpValue (FP.dcmp x.toUInt64 x.toUInt64) .l) = 0 then (f_X12_floor (FP.dneg x.toUInt64)).bind (fun x27 => f_X12_function_263 2398 (FP.dneg x27) R) else f_X12_function_234 k' x.toUInt64 2398 R else f_X12_function_234 k' x.toUInt64 2398 R) = f_X12_ofReal 2398 r.toUInt64 R := by
  have e263 : ∀ u, f_X12_function_263 2398 u R = f_X12_ofReal 2398 u R := fun u => by unfold f_X12_function_263; rw [if_pos k_2398, jid]
  unfold f_X3_real_35 f_X3_real_120 f_X12_function_234
  simp only [e263]
  rcases hk with ⟨rfl, rfl⟩ | ⟨rfl, rfl⟩ | ⟨rfl, rfl⟩ | ⟨rfl, rfl⟩ | ⟨rfl, rfl⟩
  · exact ⟨x, hx, by rw [if_neg (by decide), if_neg (by decide), if_neg (by decide), if_neg (by decide), if_pos ka], by rw [if_pos rfl]⟩
  · obtain ⟨g1, g2⟩ := floor_ok hx
    exact ⟨_, g2, by rw [if_neg (by decide), if_pos rfl, jlt, if_pos ka], by rw [if_neg (by decide), if_pos rfl, g1, obt]⟩
  · by_cases hn : nN x
    · obtain ⟨f1, f2⟩ := flip_bits x
      have hnf : nN (x ^^^ (-9223372036854775808 : Int64)) := by unfold nN; rw [f1]; exact hn
      obtain ⟨g1, g2⟩ := floor_ok (x := x ^^^ (-9223372036854775808 : Int64)) (vcan_iff.mpr (fun z => absurd hnf z))
      have hnb := below_nN hnf
      have hnr : nN (f_X5_below (x ^^^ (-9223372036854775808 : Int64)) ^^^ (-9223372036854775808 : Int64)) := by unfold nN; rw [(flip_bits _).1]; exact hnb
      refine ⟨_, vcan_iff.mpr (fun z => absurd hnr z), by rw [if_pos rfl, jlt, if_pos ka], ?_⟩
      rw [if_neg (by decide), if_neg (by decide), if_pos rfl, if_pos (self_eq.mpr hn), dneg_u, g1, obt, dneg_u]
    · have hxe := nan_is hx hn
      refine ⟨x, hx, ?_, ?_⟩
      · rw [if_pos rfl, jlt, if_pos ka, hxe]
        rw [show f_X5_below ((9221120237041090560 : Int64) ^^^ (-9223372036854775808 : Int64)) ^^^ (-9223372036854775808 : Int64) = 9221120237041090560 from by decide +kernel]
      · rw [if_neg (by decide), if_neg (by decide), if_pos rfl, if_neg (fun z => hn (self_eq.mp z)), if_pos rfl]
  · obtain ⟨g1, g2⟩ := near_ok hx
    exact ⟨_, g2, by rw [if_neg (by decide), if_neg (by decide), if_pos rfl, jlt, if_pos ka], by rw [if_neg (by decide), if_neg (by decide), if_neg (by decide), if_neg (by decide), if_pos rfl, g1, obt]⟩
  · obtain ⟨r, g1, g2, g3⟩ := root_ok hx
    exact ⟨r, g3, by rw [if_neg (by decide), if_neg (by decide), if_neg (by decide), if_pos rfl, g1, obt, if_pos ka], by rw [if_neg (by decide), if_neg (by decide), if_neg (by decide), if_neg (by decide), if_neg (by decide), g2, obt]⟩
theorem a_real {n : Int} {C R : jM} {a sa p : Nat} (hC : Lay C) (hR : Lay R) (ka : jK a = 7) (ha : VR n C a R sa) (hp : jI R 92 2398 = nI p) (hp2 : p < 1500) (hsa : sa < p) {k k' : Int32} (hk : (k = 143 ∧ k' = 16) ∨ (k = 133 ∧ k' = 6) ∨ (k = 130 ∧ k' = 3) ∨ (k = 141 ∧ k' = 14) ∨ (k = 144 ∧ k' = 17)) : ∃ fl x C' R', f_X3_real k a C = some (fl, C') ∧ f_X12_function 2398 k' (nI sa) R = some (x, R') ∧ OpR n C C' a R R' p fl x := by
  obtain ⟨ea1, ea2, ea3⟩ := VR_so ha
  obtain ⟨pa1, pa2, pa3⟩ := apn (show sa < 1500 by omega)
  have A1 : jA (a + 1) 14 (0 : Int32) = true := jAz (kd_val ka).1 (by rw [(kd_val ka).2]; decide)
  have qa := a12p (show sa < 1500 by omega)
  have za := c12p (show sa < 1500 by omega)
  have ia : (nI sa).toInt = sa := nI_toInt (by omega)
  have hk' : k' ≠ 2 ∧ k' ≠ 11 ∧ k' ≠ 25 ∧ k' ≠ 23 := by rcases hk with ⟨-, rfl⟩ | ⟨-, rfl⟩ | ⟨-, rfl⟩ | ⟨-, rfl⟩ | ⟨-, rfl⟩ <;> decide
  by_cases ca : (jI C 52 a).toInt < 2
  · obtain ⟨x, x1, x2, x3⟩ := asR hR ha (by omega) ca
    obtain ⟨r, r1, r2, r3⟩ := real_fun hk (C := C) (R := R) ka x3
    obtain ⟨C', R', d1, d2, d3⟩ := real_done (n := n) hC hR ka hp hp2 r1
    refine ⟨_, _, C', R', ?_, ?_, d3⟩
    · have e : f_X3_real k a C = f_X3_real_35 k a x C := by
        unfold f_X3_real
        simp only [ka, k_2398, ly_v hC ka, A1, cl0, ly_88 hR, ly_89 hR, ly_90 hR, ly_91 hR, pa1, pa2, pa3, ea1, ea2, qa.1, qa.2, za, jid, i10, c_isn1 ka ea3.1 ca, true_and, and_true, and_false, false_and, and_self, if_true, if_false, ite_self, Nat.reduceEqDiff, reduceIte, obt, jlt, jbt, jbd_ite, bind_ite]
        exact bind_num (f := fun z => f_X3_real_35 k a z C) x1
      rw [e, r2]; exact d1
    · unfold f_X12_function
      simp only [ka, k_2398, ly_v hC ka, A1, cl0, ly_88 hR, ly_89 hR, ly_90 hR, ly_91 hR, pa1, pa2, pa3, ea1, ea2, qa.1, qa.2, za, jid, i10, m_isn1 ca, hk'.1, hk'.2.1, hk'.2.2.1, hk'.2.2.2, x2, true_and, and_true, and_false, false_and, and_self, if_true, if_false, ite_self, Nat.reduceEqDiff, reduceIte, obt, jlt, jbt, jbd_ite, bind_ite]
      rw [r3]; exact d2
  · obtain ⟨R', d1, d2⟩ := fail_done (n := n) (C := C) (a := a) (fl := 2) hp (by decide)
    refine ⟨_, _, _, R', ?_, ?_, d2⟩
    · unfold f_X3_real
      simp only [ka, k_2398, ly_v hC ka, A1, cl0, ly_88 hR, ly_89 hR, ly_90 hR, ly_91 hR, pa1, pa2, pa3, ea1, ea2, qa.1, qa.2, za, jid, i10, c_isn0 ka ca, true_and, and_true, and_false, false_and, and_self, if_true, if_false, ite_self, Nat.reduceEqDiff, reduceIte, obt, jlt, jbt, jbd_ite, bind_ite]
    · unfold f_X12_function
      simp only [ka, k_2398, ly_v hC ka, A1, cl0, ly_88 hR, ly_89 hR, ly_90 hR, ly_91 hR, pa1, pa2, pa3, ea1, ea2, qa.1, qa.2, za, jid, i10, m_isn0 ca, hk'.1, hk'.2.1, hk'.2.2.1, true_and, and_true, and_false, false_and, and_self, if_true, if_false, ite_self, Nat.reduceEqDiff, reduceIte, obt, jlt, jbt, jbd_ite, bind_ite]
      exact d1
theorem a_born {n : Int} {C R : jM} {a sa p : Nat} (hC : Lay C) (hR : Lay R) (ka : jK a = 7) (ha : VR n C a R sa) (hp : jI R 92 2398 = nI p) (hp2 : p < 1500) (hsa : sa < p) (hP : rP C R) (hn : n = (jI C 31 1).toInt) : ∃ fl x C' R', f_X3_born 1 a C = some (fl, C') ∧ f_X12_function 2398 2 (nI sa) R = some (x, R') ∧ OpR n C C' a R R' p fl x := by
  obtain ⟨ea1, ea2, ea3⟩ := VR_so ha
  obtain ⟨pa1, pa2, pa3⟩ := apn (show sa < 1500 by omega)
  have A1 : jA (a + 1) 14 (0 : Int32) = true := jAz (kd_val ka).1 (by rw [(kd_val ka).2]; decide)
  have qa := a12p (show sa < 1500 by omega)
  have za := c12p (show sa < 1500 by omega)
  have ia : (nI sa).toInt = sa := nI_toInt (by omega)
  by_cases ca : jI C 52 a = 8
  · obtain ⟨-, -, -, v4⟩ := id ha
    have v0 := v4 0 (by unfold vlen; rw [ca, if_neg (by decide)]; decide)
    unfold vitem at v0
    rw [ca, if_neg (by decide)] at v0
    obtain ⟨w1, w2, w3⟩ := v0
    have w2 := w2 (by decide)
    have w3 := w3 (by decide)
    obtain ⟨h1, h2, h3, h4⟩ := hP
    have hw : jAL R 2401 (12 * sa) = jAL C (a + 1) 0 := w1.symm
    have hb32 : (jAL C (a + 1) 0).toInt32.toInt = (jAL C (a + 1) 0).toInt := l2i (by omega) (by omega)
    have hA3 : jA 3 13 (jAL C (a + 1) 0).toInt32 = true := jA_iff.mpr ⟨k_3, by omega, by rw [ln_3]; omega⟩
    have hA4 : jA 2428 13 (jAL C (a + 1) 0).toInt32 = true := jA_iff.mpr ⟨k_2428, by omega, by rw [ln_2428]; omega⟩
    have heq := (h4 (jAL C (a + 1) 0).toInt32.toNatClampNeg (by rw [i_cl]; omega)).2.1
    obtain ⟨C', R', d1, d2, d3⟩ := whole_done (n := n) hC hR ka hp hp2 (jAI C 3 (jAL C (a + 1) 0).toInt32.toNatClampNeg).toInt64
    refine ⟨_, _, C', R', ?_, ?_, d3⟩
    · unfold f_X3_born
      simp only [ka, k_2398, ly_v hC ka, A1, cl0, ly_88 hR, ly_89 hR, ly_90 hR, ly_91 hR, pa1, pa2, pa3, ea1, ea2, qa.1, qa.2, za, jid, i10, ca, show ((8 : Int32) = 8) = True from by decide, k_1, ly_33 hC, hasPerson_ok, hA3, show (0 ≤ (jAL C (a + 1) 0).toInt ∧ (jAL C (a + 1) 0).toInt < (jI C 31 1).toInt) from ⟨w3, by omega⟩, true_and, and_true, and_false, false_and, and_self, if_true, if_false, ite_self, Nat.reduceEqDiff, reduceIte, obt, jlt, jbt, jbd_ite, bind_ite]
      exact d1
    · unfold f_X12_function
      simp only [ka, k_2398, ly_v hC ka, A1, cl0, ly_88 hR, ly_89 hR, ly_90 hR, ly_91 hR, pa1, pa2, pa3, ea1, ea2, qa.1, qa.2, za, jid, i10, ca, show ((8 : Int32) = 8) = True from by decide, show ((2 : Int32) = 2) = True from by decide, ly_137 hR, hw, hA4, ← heq, true_and, and_true, and_false, false_and, and_self, if_true, if_false, ite_self, Nat.reduceEqDiff, reduceIte, obt, jlt, jbt, jbd_ite, bind_ite]
      exact d2
  · obtain ⟨R', d1, d2⟩ := fail_done (n := n) (C := C) (a := a) (fl := 2) hp (by decide)
    refine ⟨_, _, _, R', ?_, ?_, d2⟩
    · unfold f_X3_born
      simp only [ka, k_2398, ly_v hC ka, A1, cl0, ly_88 hR, ly_89 hR, ly_90 hR, ly_91 hR, pa1, pa2, pa3, ea1, ea2, qa.1, qa.2, za, jid, i10, ca, true_and, and_true, and_false, false_and, and_self, if_true, if_false, ite_self, Nat.reduceEqDiff, reduceIte, obt, jlt, jbt, jbd_ite, bind_ite]
    · unfold f_X12_function
      simp only [ka, k_2398, ly_v hC ka, A1, cl0, ly_88 hR, ly_89 hR, ly_90 hR, ly_91 hR, pa1, pa2, pa3, ea1, ea2, qa.1, qa.2, za, jid, i10, ca, show ((2 : Int32) = 2) = True from by decide, true_and, and_true, and_false, false_and, and_self, if_true, if_false, ite_self, Nat.reduceEqDiff, reduceIte, obt, jlt, jbt, jbd_ite, bind_ite]
      exact d1
theorem a_zeros {n : Int} {C R : jM} {a sa p : Nat} (hC : Lay C) (hR : Lay R) (ka : jK a = 7) (ha : VR n C a R sa) (hp : jI R 92 2398 = nI p) (hp2 : p < 1500) (hsa : sa < p) : ∃ fl x C' R', f_X3_zeros a C = some (fl, C') ∧ f_X12_function 2398 25 (nI sa) R = some (x, R') ∧ OpR n C C' a R R' p fl x := by
  obtain ⟨ea1, ea2, ea3⟩ := VR_so ha
  obtain ⟨pa1, pa2, pa3⟩ := apn (show sa < 1500 by omega)
  have A1 : jA (a + 1) 14 (0 : Int32) = true := jAz (kd_val ka).1 (by rw [(kd_val ka).2]; decide)
  have qa := a12p (show sa < 1500 by omega)
  have za := c12p (show sa < 1500 by omega)
  have ia : (nI sa).toInt = sa := nI_toInt (by omega)
  have hfun : f_X12_function 2398 25 (nI sa) R = if jI C 52 a = 0 then (if f_X12_in (jAL R 2401 (12 * sa)) 0 12 = 0 then f_X12_failing 2398 4 R else f_X12_made 2398 2 (jAL R 2401 (12 * sa)).toInt32 R) else f_X12_failing 2398 2 R := by
    unfold f_X12_function
    simp only [ka, k_2398, ly_v hC ka, A1, cl0, ly_88 hR, ly_89 hR, ly_90 hR, ly_91 hR, pa1, pa2, pa3, ea1, ea2, qa.1, qa.2, za, jid, i10, show ((25 : Int32) = 2) = False from by decide, show ((25 : Int32) = 11) = False from by decide, show ((25 : Int32) = 25) = True from by decide, true_and, and_true, and_false, false_and, and_self, if_true, if_false, ite_self, Nat.reduceEqDiff, reduceIte, obt, jlt, jbt, jbd_ite, bind_ite]
  have t12 : (12 : Int64).toInt = 12 := by decide
  by_cases ca : jI C 52 a = 0
  · have hw := VR_num0 ha ca
    rw [if_pos ca, ← hw] at hfun
    by_cases c2 : 0 ≤ (jAL C (a + 1) 0).toInt ∧ (jAL C (a + 1) 0).toInt ≤ 12
    · rw [if_neg (by rw [in0, t_l0, t12]; omega)] at hfun
      have h32 : (jAL C (a + 1) 0).toInt32.toInt = (jAL C (a + 1) 0).toInt := l2i (by omega) (by omega)
      obtain ⟨C', k1, k2, k3, k4, k5⟩ := setRow_ok hC ka 2 (jAL C (a + 1) 0).toInt32
      obtain ⟨R', g1, g2, g3, g4, g5, g6, g7, g8, g9⟩ := made_ok hR hp hp2 2 (jAL C (a + 1) 0).toInt32
      refine ⟨0, nI p, C', R', ?_, by rw [hfun]; exact g1, opr_new k2 g2 g3 g4 g5 (fun s hs => made_sS g6 g7 (fun j hj => by rw [g8, if_neg hj]) (fun j hj => by rw [g9, if_neg hj]) hs) ?_ hp2⟩
      · unfold f_X3_zeros
        simp only [ka, k_2398, ly_v hC ka, A1, cl0, ly_88 hR, ly_89 hR, ly_90 hR, ly_91 hR, pa1, pa2, pa3, ea1, ea2, qa.1, qa.2, za, jid, i10, ca, l_lt, l_le, t_l0, t12, show ¬ (jAL C (a + 1) 0).toInt < 0 from by omega, c2.2, k1, true_and, and_true, and_false, false_and, and_self, if_true, if_false, ite_self, Nat.reduceEqDiff, reduceIte, obt, jlt, jbt, jbd_ite, bind_ite]
      · unfold VR VV
        rw [k3, k4, g6, g7, upd_if, upd_if, if_pos rfl, if_pos rfl]
        refine ⟨rfl, rfl, ⟨by decide, by decide, by omega, by omega, fun z => absurd z (by decide)⟩, fun j hj => ?_⟩
        have hj12 : j < 12 := by unfold vlen at hj; rw [if_pos (by decide)] at hj; omega
        unfold vitem
        rw [if_neg (by decide), k5 j hj12, if_pos (by decide)]
        refine ⟨?_, fun z => absurd z (by decide), fun z => absurd z (by decide)⟩
        show (0 : Int64) = jAL R' 2401 (12 * p + j)
        rw [g8, if_pos (by omega), if_pos (kin0 (by decide))]
    · rw [if_pos (by rw [in0, t_l0, t12]; exact c2)] at hfun
      obtain ⟨R', d1, d2⟩ := fail_done (n := n) (C := C) (a := a) (fl := 4) hp (by decide)
      refine ⟨_, _, _, R', ?_, by rw [hfun]; exact d1, d2⟩
      unfold f_X3_zeros
      simp only [ka, k_2398, ly_v hC ka, A1, cl0, ly_88 hR, ly_89 hR, ly_90 hR, ly_91 hR, pa1, pa2, pa3, ea1, ea2, qa.1, qa.2, za, jid, i10, ca, l_lt, l_le, t_l0, t12, true_and, and_true, and_false, false_and, and_self, if_true, if_false, ite_self, Nat.reduceEqDiff, reduceIte, obt, jlt, jbt, jbd_ite, bind_ite]
      by_cases c3 : (jAL C (a + 1) 0).toInt < 0
      · rw [if_pos c3]
      · rw [if_neg c3, if_neg (by omega)]
  · rw [if_neg ca] at hfun
    obtain ⟨R', d1, d2⟩ := fail_done (n := n) (C := C) (a := a) (fl := 2) hp (by decide)
    refine ⟨_, _, _, R', ?_, by rw [hfun]; exact d1, d2⟩
    unfold f_X3_zeros
    simp only [ka, k_2398, ly_v hC ka, A1, cl0, ly_88 hR, ly_89 hR, ly_90 hR, ly_91 hR, pa1, pa2, pa3, ea1, ea2, qa.1, qa.2, za, jid, i10, ca, true_and, and_true, and_false, false_and, and_self, if_true, if_false, ite_self, Nat.reduceEqDiff, reduceIte, obt, jlt, jbt, jbd_ite, bind_ite]

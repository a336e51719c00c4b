/-! PURE: min, max, the sign turned, whole, real, floor, ceil, near, root, len, born, zeros -/
theorem ext_pick {n : Int} {C R : jM} (hC : Lay C) (hR : Lay R) {a p : Nat} (ka : jK a = 7) (hp : jI R 92 2398 = nI p) (hp2 : p < 1500) {r : Int64} (hr : vcan r) : ∃ C' R', f_X3_extreme_172 a 1 r C = some (0, C') ∧ f_X12_extreme_117 2398 r.toUInt64 R = some (nI p, R') ∧ OpR n C C' a R R' p 0 (nI p) := by
  unfold f_X3_extreme_172 f_X12_extreme_117
  rw [if_pos ka, if_pos k_2398, jid]
  exact real_done hC hR ka hp hp2 hr
theorem a_extreme {n : Int} {C R : jM} {a b sa sb p : Nat} (hC : Lay C) (hR : Lay R) (ka : jK a = 7) (kb : jK b = 7) (ha : VR n C a R sa) (hb : VR n C b R sb) (hp : jI R 92 2398 = nI p) (hp2 : p < 1500) (hsa : sa < p) (hsb : sb < p) {k k' : Int32} (hk : (k = 1 ∧ k' = 13) ∨ (k = 0 ∧ k' = 12)) :
    ∃ fl x C' R', f_X3_extreme k a b C = some (fl, C') ∧ f_X12_extreme 2398 k' (nI sa) (nI sb) R = some (x, R') ∧ OpR n C C' a R R' p fl x := by
  obtain ⟨ea1, ea2, ea3⟩ := VR_so ha
  obtain ⟨pa1, pa2, pa3⟩ := apn (show sa < 1500 by omega)
  have A1 : jA (a + 1) 14 (0 : Int32) = true := jAz (kd_val ka).1 (by rw [(kd_val ka).2]; decide)
  have qa := a12p (show sa < 1500 by omega)
  have za := c12p (show sa < 1500 by omega)
  have ia : (nI sa).toInt = sa := nI_toInt (by omega)
  obtain ⟨eb1, eb2, eb3⟩ := VR_so hb
  obtain ⟨pb1, pb2, pb3⟩ := apn (show sb < 1500 by omega)
  have A2 : jA (b + 1) 14 (0 : Int32) = true := jAz (kd_val kb).1 (by rw [(kd_val kb).2]; decide)
  have qb := a12p (show sb < 1500 by omega)
  have zb := c12p (show sb < 1500 by omega)
  have ib : (nI sb).toInt = sb := nI_toInt (by omega)
  by_cases ca : (jI C 52 a).toInt < 2
  · by_cases cb : (jI C 52 b).toInt < 2
    · have real_case : ¬ (jI C 52 a = 0 ∧ jI C 52 b = 0) → ∃ fl x C' R', f_X3_extreme k a b C = some (fl, C') ∧ f_X12_extreme 2398 k' (nI sa) (nI sb) R = some (x, R') ∧ OpR n C C' a R R' p fl x := by
        intro hz
        obtain ⟨x, y, x1, y1, x2, y2, x3, y3⟩ := asR2 hC hR ka kb ha hb hp hp2 hsa hsb ca cb
        have f1 : f_X3_extreme k a b C = f_X3_extreme_107 k a x y C := by
          have e89 : ∀ t, f_X3_extreme_88 k a b (jAL C (b + 1) 0) t C = f_X3_extreme_107 k a t y C := fun t => by
            unfold f_X3_extreme_88
            rw [if_pos kb]
            exact bind_num (f := fun z => f_X3_extreme_107 k a t z C) y3
          have e73 : f_X3_extreme_72 k a b (jAL C (a + 1) 0) (jAL C (b + 1) 0) C = f_X3_extreme_107 k a x y C := by
            unfold f_X3_extreme_72
            rw [if_pos ka]
            exact (bind_num (f := fun z => f_X3_extreme_88 k a b (jAL C (b + 1) 0) z C) x3).trans (e89 x)
          unfold f_X3_extreme
          simp only [ka, k_2398, ly_v hC ka, A1, cl0, ly_88 hR, ly_89 hR, ly_90 hR, ly_91 hR, pa1, pa2, pa3, ea1, ea2, qa.1, qa.2, za, jid, i10, kb, ly_v hC kb, A2, pb1, pb2, pb3, eb1, eb2, qb.1, qb.2, zb, c_isn1 ka ea3.1 ca, c_isn1 kb eb3.1 cb, e73, true_and, and_true, and_false, false_and, and_self, if_true, if_false, ite_self, Nat.reduceEqDiff, reduceIte, obt, jlt, jbt, jbd_ite, bind_ite]
          by_cases c1 : jI C 52 a = 0
          · rw [if_pos c1, if_neg (fun z => hz ⟨c1, z⟩)]
          · rw [if_neg c1]
        have f2 : f_X12_extreme 2398 k' (nI sa) (nI sb) R = f_X12_extreme_50 2398 k' (nI sa) (nI sb) R := by
          unfold f_X12_extreme
          simp only [ka, k_2398, ly_v hC ka, A1, cl0, ly_88 hR, ly_89 hR, ly_90 hR, ly_91 hR, pa1, pa2, pa3, ea1, ea2, qa.1, qa.2, za, jid, i10, kb, ly_v hC kb, A2, pb1, pb2, pb3, eb1, eb2, qb.1, qb.2, zb, m_isn1 ca, m_isn1 cb, true_and, and_true, and_false, false_and, and_self, if_true, if_false, ite_self, Nat.reduceEqDiff, reduceIte, obt, jlt, jbt, jbd_ite, bind_ite]
          by_cases c1 : jI C 52 a = 1
          · rw [if_pos c1]
          · rw [if_neg c1, if_pos]
            rcases so01 ea3.1 ca with z | z
            · rcases so01 eb3.1 cb with w | w
              · exact absurd ⟨z, w⟩ hz
              · exact w
            · exact absurd z c1
        have f4 : ∃ r, vcan r ∧ f_X3_extreme_107 k a x y C = f_X3_extreme_172 a 1 r C ∧ f_X12_extreme_50 2398 k' (nI sa) (nI sb) R = f_X12_extreme_117 2398 r.toUInt64 R := by
          unfold f_X3_extreme_107 f_X12_extreme_50 f_X3_extreme_128 f_X3_extreme_136 f_X3_extreme_153 f_X3_extreme_159 f_X12_extreme_107 f_X12_extreme_80
          rw [if_pos k_2398, if_pos k_2398, x2, obt, y2, obt, isNot_ok, isNot_ok, above_ok x1 y1, obt]
          simp only [self_eq, jlt, jid]
          have e117 : ∀ u, f_X12_extreme_117 2398 u R = f_X12_ofReal 2398 u R := fun u => by unfold f_X12_extreme_117; rw [if_pos k_2398, jid]
          by_cases h1 : nN x
          · by_cases h2 : nN y
            · simp only [h1, h2, if_true, show ((0 : Int32) = 0) = True from by decide]
              by_cases h3 : f_X5_order y < f_X5_order x
              · simp only [h3, if_true]
                rcases hk with ⟨rfl, rfl⟩ | ⟨rfl, rfl⟩
                · exact ⟨y, y1, by simp only [show ((1 : Int32) = 0) = False from by decide, show ((0 : Int32) = 1) = False from by decide, show ((1 : Int32) = 1) = True from by decide, show ((0 : Int32) = 0) = True from by decide, show ((13 : Int32) = 12) = False from by decide, show ((12 : Int32) = 12) = True from by decide, if_true, if_false], by simp only [show ((1 : Int32) = 0) = False from by decide, show ((0 : Int32) = 1) = False from by decide, show ((1 : Int32) = 1) = True from by decide, show ((0 : Int32) = 0) = True from by decide, show ((13 : Int32) = 12) = False from by decide, show ((12 : Int32) = 12) = True from by decide, if_true, if_false]⟩
                · exact ⟨x, x1, by simp only [show ((1 : Int32) = 0) = False from by decide, show ((0 : Int32) = 1) = False from by decide, show ((1 : Int32) = 1) = True from by decide, show ((0 : Int32) = 0) = True from by decide, show ((13 : Int32) = 12) = False from by decide, show ((12 : Int32) = 12) = True from by decide, if_true, if_false], by simp only [show ((1 : Int32) = 0) = False from by decide, show ((0 : Int32) = 1) = False from by decide, show ((1 : Int32) = 1) = True from by decide, show ((0 : Int32) = 0) = True from by decide, show ((13 : Int32) = 12) = False from by decide, show ((12 : Int32) = 12) = True from by decide, if_true, if_false]⟩
              · simp only [h3, if_false]
                rcases hk with ⟨rfl, rfl⟩ | ⟨rfl, rfl⟩
                · exact ⟨x, x1, by simp only [show ((1 : Int32) = 0) = False from by decide, show ((0 : Int32) = 1) = False from by decide, show ((1 : Int32) = 1) = True from by decide, show ((0 : Int32) = 0) = True from by decide, show ((13 : Int32) = 12) = False from by decide, show ((12 : Int32) = 12) = True from by decide, if_true, if_false], by simp only [show ((1 : Int32) = 0) = False from by decide, show ((0 : Int32) = 1) = False from by decide, show ((1 : Int32) = 1) = True from by decide, show ((0 : Int32) = 0) = True from by decide, show ((13 : Int32) = 12) = False from by decide, show ((12 : Int32) = 12) = True from by decide, if_true, if_false]⟩
                · exact ⟨y, y1, by simp only [show ((1 : Int32) = 0) = False from by decide, show ((0 : Int32) = 1) = False from by decide, show ((1 : Int32) = 1) = True from by decide, show ((0 : Int32) = 0) = True from by decide, show ((13 : Int32) = 12) = False from by decide, show ((12 : Int32) = 12) = True from by decide, if_true, if_false], by simp only [show ((1 : Int32) = 0) = False from by decide, show ((0 : Int32) = 1) = False from by decide, show ((1 : Int32) = 1) = True from by decide, show ((0 : Int32) = 0) = True from by decide, show ((13 : Int32) = 12) = False from by decide, show ((12 : Int32) = 12) = True from by decide, if_true, if_false]⟩
            · have hy : y = 9221120237041090560 := nan_is y1 h2
              simp only [h1, h2, if_true, if_false, show ((0 : Int32) = 0) = True from by decide, show ((1 : Int32) = 0) = False from by decide, ite_self]
              exact ⟨y, y1, rfl, by rw [e117, hy, nan_u]⟩
          · have hx : x = 9221120237041090560 := nan_is x1 h1
            simp only [h1, if_false, show ((1 : Int32) = 0) = False from by decide, ite_self]
            exact ⟨x, x1, rfl, by rw [e117, hx, nan_u]⟩
        obtain ⟨r, r1, t1, t2⟩ := f4
        obtain ⟨C', R', d1, d2, d3⟩ := ext_pick (n := n) hC hR ka hp hp2 r1
        exact ⟨_, _, C', R', by rw [f1, t1]; exact d1, by rw [f2, t2]; exact d2, d3⟩
      rcases so01 ea3.1 ca with c1 | c1
      · rcases so01 eb3.1 cb with c2 | c2
        · obtain ⟨w, w1, w2⟩ : ∃ w, f_X3_extreme k a b C = some ((0 : Int32), jrL C (a + 1) (vp_updL (jAL C (a + 1)) 0 w)) ∧ f_X12_extreme 2398 k' (nI sa) (nI sb) R = f_X12_ofWhole 2398 w R := by
            unfold f_X3_extreme f_X12_extreme f_X3_extreme_69 f_X12_extreme_157 f_X12_extreme_168 f_X12_extreme_178
            simp only [ka, k_2398, ly_v hC ka, A1, cl0, ly_88 hR, ly_89 hR, ly_90 hR, ly_91 hR, pa1, pa2, pa3, ea1, ea2, qa.1, qa.2, za, jid, i10, kb, ly_v hC kb, A2, pb1, pb2, pb3, eb1, eb2, qb.1, qb.2, zb, m_isn1 ca, m_isn1 cb, c_isn1 ka ea3.1 ca, c_isn1 kb eb3.1 cb, c1, c2, i10, show f_X12_isNumber 0 = 1 from by decide, show ((0 : Int32) = 1) = False from by decide, true_and, and_true, and_false, false_and, and_self, if_true, if_false, ite_self, Nat.reduceEqDiff, reduceIte, obt, jlt, jbt, jbd_ite, bind_ite]
            rw [← VR_num0 ha c1, ← VR_num0 hb c2]
            generalize jAL C (a + 1) 0 = X
            generalize jAL C (b + 1) 0 = Y
            have hle : X ≤ Y ↔ ¬ Y < X := by rw [l_le, l_lt]; omega
            rcases hk with ⟨rfl, rfl⟩ | ⟨rfl, rfl⟩
            · by_cases h : Y < X
              · have h2 : ¬ X ≤ Y := fun z => hle.mp z h
                exact ⟨Y, by simp only [h, show ((1 : Int32) = 0) = False from by decide, show ((0 : Int32) = 1) = False from by decide, show ((1 : Int32) = 1) = True from by decide, show ((0 : Int32) = 0) = True from by decide, show ((13 : Int32) = 12) = False from by decide, show ((12 : Int32) = 12) = True from by decide, if_true, if_false], by simp only [h2, show ((1 : Int32) = 0) = False from by decide, show ((0 : Int32) = 1) = False from by decide, show ((1 : Int32) = 1) = True from by decide, show ((0 : Int32) = 0) = True from by decide, show ((13 : Int32) = 12) = False from by decide, show ((12 : Int32) = 12) = True from by decide, if_true, if_false]⟩
              · have h2 : X ≤ Y := hle.mpr h
                exact ⟨X, by simp only [h, show ((1 : Int32) = 0) = False from by decide, show ((0 : Int32) = 1) = False from by decide, show ((1 : Int32) = 1) = True from by decide, show ((0 : Int32) = 0) = True from by decide, show ((13 : Int32) = 12) = False from by decide, show ((12 : Int32) = 12) = True from by decide, if_true, if_false], by simp only [h2, show ((1 : Int32) = 0) = False from by decide, show ((0 : Int32) = 1) = False from by decide, show ((1 : Int32) = 1) = True from by decide, show ((0 : Int32) = 0) = True from by decide, show ((13 : Int32) = 12) = False from by decide, show ((12 : Int32) = 12) = True from by decide, if_true, if_false]⟩
            · by_cases h : Y < X
              · have h2 : ¬ X ≤ Y := fun z => hle.mp z h
                exact ⟨X, by simp only [h, show ((1 : Int32) = 0) = False from by decide, show ((0 : Int32) = 1) = False from by decide, show ((1 : Int32) = 1) = True from by decide, show ((0 : Int32) = 0) = True from by decide, show ((13 : Int32) = 12) = False from by decide, show ((12 : Int32) = 12) = True from by decide, if_true, if_false], by simp only [h2, show ((1 : Int32) = 0) = False from by decide, show ((0 : Int32) = 1) = False from by decide, show ((1 : Int32) = 1) = True from by decide, show ((0 : Int32) = 0) = True from by decide, show ((13 : Int32) = 12) = False from by decide, show ((12 : Int32) = 12) = True from by decide, if_true, if_false]⟩
              · have h2 : X ≤ Y := hle.mpr h
                exact ⟨Y, by simp only [h, show ((1 : Int32) = 0) = False from by decide, show ((0 : Int32) = 1) = False from by decide, show ((1 : Int32) = 1) = True from by decide, show ((0 : Int32) = 0) = True from by decide, show ((13 : Int32) = 12) = False from by decide, show ((12 : Int32) = 12) = True from by decide, if_true, if_false], by simp only [h2, show ((1 : Int32) = 0) = False from by decide, show ((0 : Int32) = 1) = False from by decide, show ((1 : Int32) = 1) = True from by decide, show ((0 : Int32) = 0) = True from by decide, show ((13 : Int32) = 12) = False from by decide, show ((12 : Int32) = 12) = True from by decide, if_true, if_false]⟩
          obtain ⟨h1, h2, h3⟩ := cset (C := C) (v := a) (b := w) c1 (num_sz ea3 ca)
          obtain ⟨R', g1, g2⟩ := opr_whole (n := n) hR frL h1 h2 h3 hp hp2
          exact ⟨_, _, _, R', w1, by rw [w2]; exact g1, g2⟩
        · exact real_case (fun z => by rw [z.2] at c2; revert c2; decide)
      · exact real_case (fun z => by rw [z.1] at c1; revert c1; decide)
    · obtain ⟨R', d1, d2⟩ := fail_done (n := n) (C := C) (a := a) (fl := 2) hp (by decide)
      refine ⟨_, _, _, R', ?_, ?_, d2⟩
      · unfold f_X3_extreme
        simp only [ka, k_2398, ly_v hC ka, A1, cl0, ly_88 hR, ly_89 hR, ly_90 hR, ly_91 hR, pa1, pa2, pa3, ea1, ea2, qa.1, qa.2, za, jid, i10, kb, ly_v hC kb, A2, pb1, pb2, pb3, eb1, eb2, qb.1, qb.2, zb, c_isn1 ka ea3.1 ca, c_isn0 kb cb, true_and, and_true, and_false, false_and, and_self, if_true, if_false, ite_self, Nat.reduceEqDiff, reduceIte, obt, jlt, jbt, jbd_ite, bind_ite]
      · unfold f_X12_extreme f_X12_extreme_24
        simp only [ka, k_2398, ly_v hC ka, A1, cl0, ly_88 hR, ly_89 hR, ly_90 hR, ly_91 hR, pa1, pa2, pa3, ea1, ea2, qa.1, qa.2, za, jid, i10, kb, ly_v hC kb, A2, pb1, pb2, pb3, eb1, eb2, qb.1, qb.2, zb, m_isn1 ca, m_isn0 cb, true_and, and_true, and_false, false_and, and_self, if_true, if_false, ite_self, Nat.reduceEqDiff, reduceIte, obt, jlt, jbt, jbd_ite, bind_ite]
        exact d1
  · obtain ⟨R', d1, d2⟩ := fail_done (n := n) (C := C) (a := a) (fl := 2) hp (by decide)
    refine ⟨_, _, _, R', ?_, ?_, d2⟩
    · unfold f_X3_extreme
      simp only [ka, k_2398, ly_v hC ka, A1, cl0, ly_88 hR, ly_89 hR, ly_90 hR, ly_91 hR, pa1, pa2, pa3, ea1, ea2, qa.1, qa.2, za, jid, i10, kb, ly_v hC kb, A2, pb1, pb2, pb3, eb1, eb2, qb.1, qb.2, zb, c_isn0 ka ca, true_and, and_true, and_false, false_and, and_self, if_true, if_false, ite_self, Nat.reduceEqDiff, reduceIte, obt, jlt, jbt, jbd_ite, bind_ite]
    · unfold f_X12_extreme f_X12_extreme_24
      simp only [ka, k_2398, ly_v hC ka, A1, cl0, ly_88 hR, ly_89 hR, ly_90 hR, ly_91 hR, pa1, pa2, pa3, ea1, ea2, qa.1, qa.2, za, jid, i10, kb, ly_v hC kb, A2, pb1, pb2, pb3, eb1, eb2, qb.1, qb.2, zb, m_isn0 ca, true_and, and_true, and_false, false_and, and_self, if_true, if_false, ite_self, Nat.reduceEqDiff, reduceIte, obt, jlt, jbt, jbd_ite, bind_ite]
      exact d1
theorem flip_bits (x : Int64) : mg (x ^^^ (-9223372036854775808 : Int64)) = mg x ∧ dS (x ^^^ (-9223372036854775808 : Int64)) = !dS x := by
  have h := mg_sub (x := x)
  have hm : mg x < 9223372036854775808 := Nat.mod_lt _ (by decide)
  obtain ⟨h1, h2⟩ := FP.xor_top (a := ub x) (k := 63) (by have := ub_lt x; omega)
  have hx : ub (x ^^^ (-9223372036854775808 : Int64)) = ub x ^^^ 2 ^ 63 := by rw [ub_xor, show ub (-9223372036854775808 : Int64) = 2 ^ 63 from by decide]
  cases hs : dS x
  · rw [hs] at h
    simp only [Bool.toNat_false, Nat.zero_mul, Nat.zero_add] at h
    rw [h1 (by omega)] at hx
    refine ⟨by unfold mg; rw [hx]; omega, ?_⟩
    unfold dS
    rw [hx]
    exact decide_eq_true (by omega)
  · rw [hs] at h
    simp only [Bool.toNat_true, Nat.one_mul] at h
    rw [h2 (by omega)] at hx
    refine ⟨by unfold mg; rw [hx]; omega, ?_⟩
    unfold dS
    rw [hx]
    exact decide_eq_false (by omega)
theorem a_negative {n : Int} {C R : jM} {a sa p : Nat} (hC : Lay C) (hR : Lay R) (ka : jK a = 7) (ha : VR n C a R sa) (hp : jI R 92 2398 = nI p) (hp2 : p < 1500) (hsa : sa < p) : ∃ fl x C' R', f_X3_negative a C = some (fl, C') ∧ f_X12_negative 2398 (nI sa) R = some (x, R') ∧ OpR n C C' a R R' p fl x := by
  obtain ⟨ea1, ea2, ea3⟩ := VR_so ha
  obtain ⟨pa1, pa2, pa3⟩ := apn (show sa < 1500 by omega)
  have A1 : jA (a + 1) 14 (0 : Int32) = true := jAz (kd_val ka).1 (by rw [(kd_val ka).2]; decide)
  have qa := a12p (show sa < 1500 by omega)
  have za := c12p (show sa < 1500 by omega)
  have ia : (nI sa).toInt = sa := nI_toInt (by omega)
  have hnn : (0 : Int32) ≤ nI sa := by rw [i_le, t_0, ia]; omega
  by_cases ca : (jI C 52 a).toInt < 2
  · rcases so01 ea3.1 ca with c1 | c1
    · have e1 : f_X3_negative a C = if jAL C (a + 1) 0 = -9223372036854775808 then some (6, C) else some (0, jrL C (a + 1) (vp_updL (jAL C (a + 1)) 0 (-(jAL C (a + 1) 0)))) := by
        unfold f_X3_negative
        simp only [ka, k_2398, ly_v hC ka, A1, cl0, ly_88 hR, ly_89 hR, ly_90 hR, ly_91 hR, pa1, pa2, pa3, ea1, ea2, qa.1, qa.2, za, jid, i10, c_isn1 ka ea3.1 ca, c1, show ((0 : Int32) = 1) = False from by decide, true_and, and_true, and_false, false_and, and_self, if_true, if_false, ite_self, Nat.reduceEqDiff, reduceIte, obt, jlt, jbt, jbd_ite, bind_ite]
      have e2 : f_X12_negative 2398 (nI sa) R = if jAL C (a + 1) 0 = -9223372036854775808 then f_X12_failing 2398 6 R else f_X12_ofWhole 2398 (-(jAL C (a + 1) 0)) R := by
        unfold f_X12_negative f_X12_negative_109
        simp only [ka, k_2398, ly_v hC ka, A1, cl0, ly_88 hR, ly_89 hR, ly_90 hR, ly_91 hR, pa1, pa2, pa3, ea1, ea2, qa.1, qa.2, za, jid, i10, hnn, m_isn1 ca, c1, show ((0 : Int32) = 1) = False from by decide, show f_X12_isNumber 0 = 1 from by decide, true_and, and_true, and_false, false_and, and_self, if_true, if_false, ite_self, Nat.reduceEqDiff, reduceIte, obt, jlt, jbt, jbd_ite, bind_ite]
        rw [← VR_num0 ha c1]
        generalize jAL C (a + 1) 0 = X
        have hr := l_rng X
        have tL : (-9223372036854775808 : Int64).toInt = -9223372036854775808 := by decide
        by_cases h : X = -9223372036854775808
        · rw [if_pos h, h, if_pos (show (-9223372036854775808 : Int64) = - -9223372036854775808 by decide), if_neg (show ¬ (-9223372036854775808 : Int64) = 0 by decide)]
        · rw [if_neg h]
          have hX : X.toInt ≠ -9223372036854775808 := fun z => h (by rw [l_eq, tL]; exact z)
          have hneg : (-X).toInt = -X.toInt := FP.Core.int64_neg (by omega)
          by_cases h0 : X = 0
          · rw [h0]; rfl
          · rw [if_neg (fun z => by
              have := congrArg Int64.toInt z
              rw [hneg] at this
              exact h0 (by rw [l_eq, t_l0]; omega))]
      by_cases h : jAL C (a + 1) 0 = -9223372036854775808
      · obtain ⟨R', d1, d2⟩ := fail_done (n := n) (C := C) (a := a) (fl := 6) hp (by decide)
        exact ⟨_, _, _, R', by rw [e1, if_pos h], by rw [e2, if_pos h]; exact d1, d2⟩
      · obtain ⟨h1, h2, h3⟩ := cset (C := C) (v := a) (b := -(jAL C (a + 1) 0)) c1 (num_sz ea3 ca)
        obtain ⟨R', g1, g2⟩ := opr_whole (n := n) hR frL h1 h2 h3 hp hp2
        exact ⟨_, _, _, R', by rw [e1, if_neg h], by rw [e2, if_neg h]; exact g1, g2⟩
    · obtain ⟨v1, v2⟩ := VR_num1 ha c1
      obtain ⟨f1, f2⟩ := flip_bits (jAL C (a + 1) 0)
      obtain ⟨r, r1, r2, r3⟩ : ∃ r, vcan r ∧ f_X3_negative a C = some ((0 : Int32), jrL C (a + 1) (vp_updL (jAL C (a + 1)) 0 r)) ∧ f_X12_negative 2398 (nI sa) R = f_X12_ofReal 2398 r.toUInt64 R := by
        have e1 : f_X3_negative a C = some ((0 : Int32), jrL C (a + 1) (vp_updL (jAL C (a + 1)) 0 (if mg (jAL C (a + 1) 0) ≤ 9218868437227405312 then jAL C (a + 1) 0 ^^^ (-9223372036854775808 : Int64) else 9221120237041090560))) := by
          unfold f_X3_negative f_X9_setBits f_X9_setBits_47 f_X9_setBits_66
          simp only [ka, k_2398, ly_v hC ka, A1, cl0, ly_88 hR, ly_89 hR, ly_90 hR, ly_91 hR, pa1, pa2, pa3, ea1, ea2, qa.1, qa.2, za, jid, i10, c_isn1 ka ea3.1 ca, c1, isNot_ok, f1, show ((0 : Int32) < 0) = False from by decide, show ((0 : Int32) < 12) = True from by decide, show ((1 : Int32) = 1) = True from by decide, show ((1 : Int32) = 2) = False from by decide, true_and, and_true, and_false, false_and, and_self, if_true, if_false, ite_self, Nat.reduceEqDiff, reduceIte, obt, jlt, jbt, jbd_ite, bind_ite]
          by_cases h : mg (jAL C (a + 1) 0) ≤ 9218868437227405312
          · simp only [h, true_and, and_true, and_false, false_and, and_self, if_true, if_false, ite_self, Nat.reduceEqDiff, reduceIte, obt, jlt, jbt, jbd_ite, bind_ite]
          · simp only [h, i10, true_and, and_true, and_false, false_and, and_self, if_true, if_false, ite_self, Nat.reduceEqDiff, reduceIte, obt, jlt, jbt, jbd_ite, bind_ite]
        have e2 : f_X12_negative 2398 (nI sa) R = f_X12_ofReal 2398 (if mg (jAL C (a + 1) 0) ≤ 9218868437227405312 then FP.dneg (jAL C (a + 1) 0).toUInt64 else (9221120237041090560 : UInt64)) R := by
          unfold f_X12_negative f_X12_negative_73
          simp only [ka, k_2398, ly_v hC ka, A1, cl0, ly_88 hR, ly_89 hR, ly_90 hR, ly_91 hR, pa1, pa2, pa3, ea1, ea2, qa.1, qa.2, za, jid, i10, hnn, m_isn1 ca, c1, show f_X12_isNumber 1 = 1 from by decide, show ((1 : Int32) = 1) = True from by decide, v1, self_eq, true_and, and_true, and_false, false_and, and_self, if_true, if_false, ite_self, Nat.reduceEqDiff, reduceIte, obt, jlt, jbt, jbd_ite, bind_ite]
          by_cases h : mg (jAL C (a + 1) 0) ≤ 9218868437227405312
          · rw [if_pos h, if_pos h]
          · rw [if_neg h, if_neg h]
        by_cases h : mg (jAL C (a + 1) 0) ≤ 9218868437227405312
        · rw [if_pos h] at e1 e2
          exact ⟨_, vcan_iff.mpr (fun z => absurd (show nN _ by unfold nN; rw [f1]; exact h) z), e1, by rw [e2, dneg_u]⟩
        · rw [if_neg h] at e1 e2
          exact ⟨_, can_of (.inl rfl), e1, by rw [e2, nan_u]⟩
      have h1 : jI (jrL C (a + 1) (vp_updL (jAL C (a + 1)) 0 r)) 52 a = 1 := by simp only [m_I_sI, m_L_sI, m_R_sI, m_AI_sI, m_AL_sI, m_AD_sI, m_AR_sI, m_n_sI, m_I_sL, m_L_sL, m_R_sL, m_AI_sL, m_AL_sL, m_AD_sL, m_AR_sL, m_n_sL, m_I_sR, m_L_sR, m_R_sR, m_AI_sR, m_AL_sR, m_AD_sR, m_AR_sR, m_n_sR, m_I_rI, m_L_rI, m_R_rI, m_AI_rI, m_AL_rI, m_AD_rI, m_AR_rI, m_n_rI, m_I_rL, m_L_rL, m_R_rL, m_AI_rL, m_AL_rL, m_AD_rL, m_AR_rL, m_n_rL, m_I_rD, m_L_rD, m_R_rD, m_AI_rD, m_AL_rD, m_AD_rD, m_AR_rD, m_n_rD, m_I_rR, m_L_rR, m_R_rR, m_AI_rR, m_AL_rR, m_AD_rR, m_AR_rR, m_n_rR]; exact c1
      have h2 : jI (jrL C (a + 1) (vp_updL (jAL C (a + 1)) 0 r)) 53 a = 0 := by simp only [m_I_sI, m_L_sI, m_R_sI, m_AI_sI, m_AL_sI, m_AD_sI, m_AR_sI, m_n_sI, m_I_sL, m_L_sL, m_R_sL, m_AI_sL, m_AL_sL, m_AD_sL, m_AR_sL, m_n_sL, m_I_sR, m_L_sR, m_R_sR, m_AI_sR, m_AL_sR, m_AD_sR, m_AR_sR, m_n_sR, m_I_rI, m_L_rI, m_R_rI, m_AI_rI, m_AL_rI, m_AD_rI, m_AR_rI, m_n_rI, m_I_rL, m_L_rL, m_R_rL, m_AI_rL, m_AL_rL, m_AD_rL, m_AR_rL, m_n_rL, m_I_rD, m_L_rD, m_R_rD, m_AI_rD, m_AL_rD, m_AD_rD, m_AR_rD, m_n_rD, m_I_rR, m_L_rR, m_R_rR, m_AI_rR, m_AL_rR, m_AD_rR, m_AR_rR, m_n_rR]; exact num_sz ea3 ca
      have h3 : jAL (jrL C (a + 1) (vp_updL (jAL C (a + 1)) 0 r)) (a + 1) 0 = r := by simp only [m_I_sI, m_L_sI, m_R_sI, m_AI_sI, m_AL_sI, m_AD_sI, m_AR_sI, m_n_sI, m_I_sL, m_L_sL, m_R_sL, m_AI_sL, m_AL_sL, m_AD_sL, m_AR_sL, m_n_sL, m_I_sR, m_L_sR, m_R_sR, m_AI_sR, m_AL_sR, m_AD_sR, m_AR_sR, m_n_sR, m_I_rI, m_L_rI, m_R_rI, m_AI_rI, m_AL_rI, m_AD_rI, m_AR_rI, m_n_rI, m_I_rL, m_L_rL, m_R_rL, m_AI_rL, m_AL_rL, m_AD_rL, m_AR_rL, m_n_rL, m_I_rD, m_L_rD, m_R_rD, m_AI_rD, m_AL_rD, m_AD_rD, m_AR_rD, m_n_rD, m_I_rR, m_L_rR, m_R_rR, m_AI_rR, m_AL_rR, m_AD_rR, m_AR_rR, m_n_rR, true_and, and_true, and_false, false_and, and_self, if_true, if_false, ite_self, Nat.reduceEqDiff, reduceIte, obt, jlt, jbt, jbd_ite, bind_ite, updL_if]
      obtain ⟨R', g1, g2⟩ := opr_real (n := n) hR frL h1 h2 h3 r1 hp hp2
      exact ⟨_, _, _, R', r2, by rw [r3]; exact g1, g2⟩
  · obtain ⟨R', d1, d2⟩ := fail_done (n := n) (C := C) (a := a) (fl := 2) hp (by decide)
    refine ⟨_, _, _, R', ?_, ?_, d2⟩
    · unfold f_X3_negative
      simp only [ka, k_2398, ly_v hC ka, A1, cl0, ly_88 hR, ly_89 hR, ly_90 hR, ly_91 hR, pa1, pa2, pa3, ea1, ea2, qa.1, qa.2, za, jid, i10, c_isn0 ka ca, true_and, and_true, and_false, false_and, and_self, if_true, if_false, ite_self, Nat.reduceEqDiff, reduceIte, obt, jlt, jbt, jbd_ite, bind_ite]
    · unfold f_X12_negative
      simp only [ka, k_2398, ly_v hC ka, A1, cl0, ly_88 hR, ly_89 hR, ly_90 hR, ly_91 hR, pa1, pa2, pa3, ea1, ea2, qa.1, qa.2, za, jid, i10, hnn, m_isn0 ca, true_and, and_true, and_false, false_and, and_self, if_true, if_false, ite_self, Nat.reduceEqDiff, reduceIte, obt, jlt, jbt, jbd_ite, bind_ite]
      exact d1

/-! PURE: acts on rows: an item, put -/
theorem VR_it {n : Int} {C R : jM} {v s : Nat} (h : VR n C v R s) {j : Nat} (hj : (j : Int) < vlen (jI C 52 v) (jI C 53 v)) : vitem n (jI C 52 v) (jAL C (v + 1) j) (jAL R 2401 (12 * s + j)) (jAD R 2402 (12 * s + j)) := h.2.2.2 j hj
theorem a_item {n : Int} {C R : jM} {a b sa sb p : Nat} (hC : Lay C) (hR : Lay R) (ka : jK a = 7) (kb : jK b = 7) (ha : VR n C a R sa) (hb : VR n C b R sb) (hp : jI R 92 2398 = nI p) (hp2 : p < 1500) (hsa : sa < p) (hsb : sb < p) : ∃ fl x C' R', f_X3_item a b C = some (fl, C') ∧ f_X12_item 2398 (nI sa) (nI sb) R = some (x, R') ∧ OpR n C C' a R R' p fl x := by
  obtain ⟨ea1, ea2, ea3⟩ := VR_so ha
  obtain ⟨pa1, pa2, pa3⟩ := apn (show sa < 1500 by omega)
  have A1 : jA (a + 1) 14 (0 : Int32) = true := jAz (kd_val ka).1 (by rw [(kd_val ka).2]; decide)
  have qa := a12p (show sa < 1500 by omega)
  have za := c12p (show sa < 1500 by omega)
  have ia : (nI sa).toInt = sa := nI_toInt (by omega)
  obtain ⟨eb1, eb2, eb3⟩ := VR_so hb
  obtain ⟨pb1, pb2, pb3⟩ := apn (show sb < 1500 by omega)
  have A2 : jA (b + 1) 14 (0 : Int32) = true := jAz (kd_val kb).1 (by rw [(kd_val kb).2]; decide)
  have qb := a12p (show sb < 1500 by omega)
  have zb := c12p (show sb < 1500 by omega)
  have ib : (nI sb).toInt = sb := nI_toInt (by omega)
  have kb14 := kd_val ka
  by_cases ca : 2 ≤ (jI C 52 a).toInt ∧ (jI C 52 a).toInt ≤ 7
  · by_cases cb : jI C 52 b = 0
    · have hw := VR_num0 hb cb
      have hin : f_X12_in (jAL C (b + 1) 0) 0 ((jI C 53 a).toInt64 - 1) = 0 ↔ ¬ (0 ≤ (jAL C (b + 1) 0).toInt ∧ (jAL C (b + 1) 0).toInt < (jI C 53 a).toInt) := by
        have h1 := ea3.2.2.1
        have h2 := ea3.2.2.2.1
        rw [in0, t_l0, l_sub (by rw [i2l_toInt, t_l1]; omega) (by rw [i2l_toInt, t_l1]; omega), i2l_toInt, t_l1]; omega
      by_cases ci : 0 ≤ (jAL C (b + 1) 0).toInt ∧ (jAL C (b + 1) 0).toInt < (jI C 53 a).toInt
      · have hsz := ea3.2.2.2.1
        obtain ⟨i, hi⟩ : ∃ i : Nat, (jAL C (b + 1) 0).toInt = i := ⟨(jAL C (b + 1) 0).toInt.toNat, by omega⟩
        have h32 : (jAL C (b + 1) 0).toInt32.toInt = i := by rw [l2i (by omega) (by omega)]; exact hi
        have hcl : (jAL C (b + 1) 0).toInt32.toNatClampNeg = i := by rw [i_cl, h32]; rfl
        have hA : jA (a + 1) 14 (jAL C (b + 1) 0).toInt32 = true := jA_iff.mpr ⟨kb14.1, by omega, by rw [kb14.2]; omega⟩
        have hx := i12 ia (show sa < 1500 by omega) h32 (by omega)
        have hxc : (((12 : Int32) * nI sa) + (jAL C (b + 1) 0).toInt32).toNatClampNeg = 12 * sa + i := by rw [i_cl, hx]; omega
        have hX1 : jA 2401 14 (((12 : Int32) * nI sa) + (jAL C (b + 1) 0).toInt32) = true := jA_iff.mpr ⟨k_2401, by omega, by rw [ln_2401]; omega⟩
        have hX2 : jA 2402 12 (((12 : Int32) * nI sa) + (jAL C (b + 1) 0).toInt32) = true := jA_iff.mpr ⟨k_2402, by omega, by rw [ln_2402]; omega⟩
        have hit := VR_it ha (j := i) (by unfold vlen; rw [if_pos ca]; omega)
        have hcls : f_X3_item a b C = (if 5 ≤ (jI C 52 a).toInt ∧ (jI C 52 a).toInt ≤ 7 then (if jAL C (a + 1) i = -1 then some ((1 : Int32), C) else f_X3_item_61 a (jAL C (a + 1) i) C) else f_X3_item_61 a (jAL C (a + 1) i) C) := by
          unfold f_X3_item
          simp only [ka, k_2398, ly_v hC ka, A1, cl0, ly_88 hR, ly_89 hR, ly_90 hR, ly_91 hR, pa1, pa2, pa3, ea1, ea2, qa.1, qa.2, za, jid, i10, kb, ly_v hC kb, A2, pb1, pb2, pb3, eb1, eb2, qb.1, qb.2, zb, c_isR1 ka ca, cb, hasItem_ok ka hsz, ci, hcl, hA, isKin_ok ka, true_and, and_true, and_false, false_and, and_self, if_true, if_false, ite_self, Nat.reduceEqDiff, reduceIte, obt, jlt, jbt, jbd_ite, bind_ite]
          by_cases q : 5 ≤ (jI C 52 a).toInt ∧ (jI C 52 a).toInt ≤ 7
          · rw [if_pos q, if_pos q, if_neg (by decide)]
          · rw [if_neg q, if_neg q, if_pos rfl]
        have href : f_X12_item 2398 (nI sa) (nI sb) R = (if jI C 52 a = 4 then f_X12_ofReal 2398 (jAD R 2402 (12 * sa + i)) R else if 5 ≤ (jI C 52 a).toInt ∧ (jI C 52 a).toInt ≤ 7 then (if (0 : Int64) ≤ jAL R 2401 (12 * sa + i) then jbd (f_X12_made 2398 (8 : Int32) (0 : Int32) R) (fun x35 S36 => (jR S36 90 2398).bind (fun r38 => (jR S36 90 2398).bind (fun r40 => if jA r40 14 (((12 : Int32) * nI sa) + (jAL C (b + 1) 0).toInt32) = true then if jA r38 14 ((12 : Int32) * x35) = true then jlet (jrL S36 r38 (vp_updL (jAL S36 r38) ((12 : Int32) * x35).toNatClampNeg (jAL S36 r40 (12 * sa + i)))) (fun S44 => some (x35, S44)) else none else none))) else f_X12_failing 2398 1 R) else f_X12_ofWhole 2398 (jAL R 2401 (12 * sa + i)) R) := by
          have hr1 : f_X12_isRow (jI C 52 a) = 1 := by rw [m_isR, if_pos ca]
          unfold f_X12_item
          simp only [ka, k_2398, ly_v hC ka, A1, cl0, ly_88 hR, ly_89 hR, ly_90 hR, ly_91 hR, pa1, pa2, pa3, ea1, ea2, qa.1, qa.2, za, jid, i10, kb, ly_v hC kb, A2, pb1, pb2, pb3, eb1, eb2, qb.1, qb.2, zb, hr1, cb, ← hw, hxc, hX1, hX2, true_and, and_true, and_false, false_and, and_self, if_true, if_false, ite_self, Nat.reduceEqDiff, reduceIte, obt, jlt, jbt, jbd_ite, bind_ite]
          rw [if_neg (fun z => hin.mp z ci)]
          by_cases q4 : jI C 52 a = 4
          · rw [if_pos q4, if_pos q4]
          · rw [if_neg q4, if_neg q4]
            by_cases q : 5 ≤ (jI C 52 a).toInt ∧ (jI C 52 a).toInt ≤ 7
            · rw [if_pos q, m_isK, if_pos q, if_neg (by decide)]
            · rw [if_neg q, m_isK, if_neg q, if_pos rfl]
        rw [hcls, href]
        unfold vitem at hit
        by_cases q4 : jI C 52 a = 4
        · rw [if_neg (by rw [q4]; decide), if_pos q4]
          rw [q4, if_pos (by decide)] at hit
          obtain ⟨C', R', d1, d2, d3⟩ := real_done (n := n) hC hR ka hp hp2 hit.2
          refine ⟨_, _, C', R', ?_, by rw [hit.1]; exact d2, d3⟩
          unfold f_X3_item_61 f_X3_item_74 f_X3_item_91
          rw [if_pos ka, if_pos q4, if_pos ka, c_isK0 ka (by rw [q4]; decide), obt, if_pos rfl, if_pos ka]
          exact d1
        · rw [if_neg q4]
          have h14 : ¬ ((jI C 52 a).toInt = 1 ∨ (jI C 52 a).toInt = 4) := fun z => by
            rcases z with z | z
            · omega
            · exact q4 (by rw [i_eq]; exact z)
          rw [if_neg h14] at hit
          by_cases q : 5 ≤ (jI C 52 a).toInt ∧ (jI C 52 a).toInt ≤ 7
          · rw [if_pos q, if_pos q]
            have hr := hit.2.1 q.1
            by_cases qm : jAL C (a + 1) i = -1
            · obtain ⟨R', d1, d2⟩ := fail_done (n := n) (C := C) (a := a) (fl := 1) hp (by decide)
              rw [if_pos qm, if_neg (by rw [← hit.1, qm]; decide)]
              exact ⟨_, _, _, R', rfl, d1, d2⟩
            · have hne : jAL C (a + 1) i ≠ -1 := qm
              have h0 : 0 ≤ (jAL C (a + 1) i).toInt := by
                have : (jAL C (a + 1) i).toInt ≠ -1 := fun z => qm (by rw [l_eq, t_lm1]; exact z)
                omega
              rw [if_neg qm, if_pos (by rw [← hit.1, l_le, t_l0]; exact h0)]
              obtain ⟨R1, g1, g2, g3, g4, g5, g6, g7, g8, g9⟩ := made_ok hR hp hp2 8 0
              have hR1 := hR.frK g2
              have hF : Fr qK R1 (jrL R1 2401 (vp_updL (jAL R1 2401) (12 * p) (jAL R 2401 (12 * sa + i)))) := (Fr.refl).rL (by unfold qK; omega)
              have e1 : jAL R1 2401 (12 * sa + i) = jAL R 2401 (12 * sa + i) := by rw [g8, if_neg (by omega)]
              obtain ⟨x1, x2, x3⟩ := cnum (C := C) (v := a) (so := 8) (b := jAL C (a + 1) i)
              refine ⟨0, nI p, _, jrL R1 2401 (vp_updL (jAL R1 2401) (12 * p) (jAL R 2401 (12 * sa + i))), ?_, ?_, opr_new (setNumber_fr (so := 8) (b := jAL C (a + 1) i)) (g2.trans hF) g3 g4 g5 (fun s hs => ?_) ?_ hp2⟩
              · unfold f_X3_item_61 f_X3_item_74 f_X3_item_91
                rw [if_pos ka, if_neg q4, if_pos ka, c_isK1 ka q, obt, if_neg (by decide), if_pos ka, setNumber_ok hC ka, obt]
              · rw [g1]
                simp only [ly_90 hR1, hX1, (a12p hp2).1, c12p hp2, e1, true_and, and_true, and_false, false_and, and_self, if_true, if_false, ite_self, Nat.reduceEqDiff, reduceIte, obt, jlt, jbt, jbd_ite, bind_ite]
              · refine made_sS (so := 8) (n := 0) (by simp only [m_I_sI, m_L_sI, m_R_sI, m_AI_sI, m_AL_sI, m_AD_sI, m_AR_sI, m_n_sI, m_I_sL, m_L_sL, m_R_sL, m_AI_sL, m_AL_sL, m_AD_sL, m_AR_sL, m_n_sL, m_I_sR, m_L_sR, m_R_sR, m_AI_sR, m_AL_sR, m_AD_sR, m_AR_sR, m_n_sR, m_I_rI, m_L_rI, m_R_rI, m_AI_rI, m_AL_rI, m_AD_rI, m_AR_rI, m_n_rI, m_I_rL, m_L_rL, m_R_rL, m_AI_rL, m_AL_rL, m_AD_rL, m_AR_rL, m_n_rL, m_I_rD, m_L_rD, m_R_rD, m_AI_rD, m_AL_rD, m_AD_rD, m_AR_rD, m_n_rD, m_I_rR, m_L_rR, m_R_rR, m_AI_rR, m_AL_rR, m_AD_rR, m_AR_rR, m_n_rR]; exact g6) (by simp only [m_I_sI, m_L_sI, m_R_sI, m_AI_sI, m_AL_sI, m_AD_sI, m_AR_sI, m_n_sI, m_I_sL, m_L_sL, m_R_sL, m_AI_sL, m_AL_sL, m_AD_sL, m_AR_sL, m_n_sL, m_I_sR, m_L_sR, m_R_sR, m_AI_sR, m_AL_sR, m_AD_sR, m_AR_sR, m_n_sR, m_I_rI, m_L_rI, m_R_rI, m_AI_rI, m_AL_rI, m_AD_rI, m_AR_rI, m_n_rI, m_I_rL, m_L_rL, m_R_rL, m_AI_rL, m_AL_rL, m_AD_rL, m_AR_rL, m_n_rL, m_I_rD, m_L_rD, m_R_rD, m_AI_rD, m_AL_rD, m_AD_rD, m_AR_rD, m_n_rD, m_I_rR, m_L_rR, m_R_rR, m_AI_rR, m_AL_rR, m_AD_rR, m_AR_rR, m_n_rR]; exact g7) (fun j hj => ?_) (fun j hj => ?_) hs
                · simp only [m_I_sI, m_L_sI, m_R_sI, m_AI_sI, m_AL_sI, m_AD_sI, m_AR_sI, m_n_sI, m_I_sL, m_L_sL, m_R_sL, m_AI_sL, m_AL_sL, m_AD_sL, m_AR_sL, m_n_sL, m_I_sR, m_L_sR, m_R_sR, m_AI_sR, m_AL_sR, m_AD_sR, m_AR_sR, m_n_sR, m_I_rI, m_L_rI, m_R_rI, m_AI_rI, m_AL_rI, m_AD_rI, m_AR_rI, m_n_rI, m_I_rL, m_L_rL, m_R_rL, m_AI_rL, m_AL_rL, m_AD_rL, m_AR_rL, m_n_rL, m_I_rD, m_L_rD, m_R_rD, m_AI_rD, m_AL_rD, m_AD_rD, m_AR_rD, m_n_rD, m_I_rR, m_L_rR, m_R_rR, m_AI_rR, m_AL_rR, m_AD_rR, m_AR_rR, m_n_rR, true_and, and_true, and_false, false_and, and_self, if_true, if_false, ite_self, Nat.reduceEqDiff, reduceIte, obt, jlt, jbt, jbd_ite, bind_ite]; rw [updL_if, if_neg (by omega), g8, if_neg hj]
                · simp only [m_I_sI, m_L_sI, m_R_sI, m_AI_sI, m_AL_sI, m_AD_sI, m_AR_sI, m_n_sI, m_I_sL, m_L_sL, m_R_sL, m_AI_sL, m_AL_sL, m_AD_sL, m_AR_sL, m_n_sL, m_I_sR, m_L_sR, m_R_sR, m_AI_sR, m_AL_sR, m_AD_sR, m_AR_sR, m_n_sR, m_I_rI, m_L_rI, m_R_rI, m_AI_rI, m_AL_rI, m_AD_rI, m_AR_rI, m_n_rI, m_I_rL, m_L_rL, m_R_rL, m_AI_rL, m_AL_rL, m_AD_rL, m_AR_rL, m_n_rL, m_I_rD, m_L_rD, m_R_rD, m_AI_rD, m_AL_rD, m_AD_rD, m_AR_rD, m_n_rD, m_I_rR, m_L_rR, m_R_rR, m_AI_rR, m_AL_rR, m_AD_rR, m_AR_rR, m_n_rR]; rw [g9, if_neg hj]
              · unfold VR VV
                rw [x1, x2]
                simp only [m_I_sI, m_L_sI, m_R_sI, m_AI_sI, m_AL_sI, m_AD_sI, m_AR_sI, m_n_sI, m_I_sL, m_L_sL, m_R_sL, m_AI_sL, m_AL_sL, m_AD_sL, m_AR_sL, m_n_sL, m_I_sR, m_L_sR, m_R_sR, m_AI_sR, m_AL_sR, m_AD_sR, m_AR_sR, m_n_sR, m_I_rI, m_L_rI, m_R_rI, m_AI_rI, m_AL_rI, m_AD_rI, m_AR_rI, m_n_rI, m_I_rL, m_L_rL, m_R_rL, m_AI_rL, m_AL_rL, m_AD_rL, m_AR_rL, m_n_rL, m_I_rD, m_L_rD, m_R_rD, m_AI_rD, m_AL_rD, m_AD_rD, m_AR_rD, m_n_rD, m_I_rR, m_L_rR, m_R_rR, m_AI_rR, m_AL_rR, m_AD_rR, m_AR_rR, m_n_rR, true_and, and_true, and_false, false_and, and_self, if_true, if_false, ite_self, Nat.reduceEqDiff, reduceIte, obt, jlt, jbt, jbd_ite, bind_ite]
                rw [g6, g7, upd_if, upd_if, if_pos rfl, if_pos rfl]
                refine ⟨rfl, rfl, ⟨by decide, by decide, by decide, by decide, fun _ => rfl⟩, fun j hj => ?_⟩
                have hj0 : j = 0 := by unfold vlen at hj; rw [if_neg (by decide)] at hj; omega
                subst hj0
                unfold vitem
                rw [if_neg (by decide)]
                refine ⟨?_, fun _ => by rw [updL_if, if_pos rfl]; exact hr, fun _ => by rw [updL_if, if_pos rfl]; exact h0⟩
                rw [updL_if, if_pos rfl, updL_if, if_pos (by omega)]
                exact hit.1
          · rw [if_neg q, if_neg q]
            obtain ⟨C', R', d1, d2, d3⟩ := whole_done (n := n) hC hR ka hp hp2 (jAL C (a + 1) i)
            refine ⟨_, _, C', R', ?_, by rw [← hit.1]; exact d2, d3⟩
            unfold f_X3_item_61 f_X3_item_74 f_X3_item_91
            rw [if_pos ka, if_neg q4, if_pos ka, c_isK0 ka q, obt, if_pos rfl, if_pos ka]
            exact d1
      · obtain ⟨R', d1, d2⟩ := fail_done (n := n) (C := C) (a := a) (fl := 3) hp (by decide)
        refine ⟨_, _, _, R', ?_, ?_, d2⟩
        · unfold f_X3_item
          simp only [ka, k_2398, ly_v hC ka, A1, cl0, ly_88 hR, ly_89 hR, ly_90 hR, ly_91 hR, pa1, pa2, pa3, ea1, ea2, qa.1, qa.2, za, jid, i10, kb, ly_v hC kb, A2, pb1, pb2, pb3, eb1, eb2, qb.1, qb.2, zb, c_isR1 ka ca, cb, hasItem_ok ka ea3.2.2.2.1, ci, true_and, and_true, and_false, false_and, and_self, if_true, if_false, ite_self, Nat.reduceEqDiff, reduceIte, obt, jlt, jbt, jbd_ite, bind_ite]
        · unfold f_X12_item
          simp only [ka, k_2398, ly_v hC ka, A1, cl0, ly_88 hR, ly_89 hR, ly_90 hR, ly_91 hR, pa1, pa2, pa3, ea1, ea2, qa.1, qa.2, za, jid, i10, kb, ly_v hC kb, A2, pb1, pb2, pb3, eb1, eb2, qb.1, qb.2, zb, m_isR, ca, cb, ← hw, true_and, and_true, and_false, false_and, and_self, if_true, if_false, ite_self, Nat.reduceEqDiff, reduceIte, obt, jlt, jbt, jbd_ite, bind_ite]
          rw [if_pos (hin.mpr ci)]
          exact d1
    · obtain ⟨R', d1, d2⟩ := fail_done (n := n) (C := C) (a := a) (fl := 2) hp (by decide)
      refine ⟨_, _, _, R', ?_, ?_, d2⟩
      · unfold f_X3_item
        simp only [ka, k_2398, ly_v hC ka, A1, cl0, ly_88 hR, ly_89 hR, ly_90 hR, ly_91 hR, pa1, pa2, pa3, ea1, ea2, qa.1, qa.2, za, jid, i10, kb, ly_v hC kb, A2, pb1, pb2, pb3, eb1, eb2, qb.1, qb.2, zb, c_isR1 ka ca, cb, true_and, and_true, and_false, false_and, and_self, if_true, if_false, ite_self, Nat.reduceEqDiff, reduceIte, obt, jlt, jbt, jbd_ite, bind_ite]
      · unfold f_X12_item f_X12_item_21
        simp only [ka, k_2398, ly_v hC ka, A1, cl0, ly_88 hR, ly_89 hR, ly_90 hR, ly_91 hR, pa1, pa2, pa3, ea1, ea2, qa.1, qa.2, za, jid, i10, kb, ly_v hC kb, A2, pb1, pb2, pb3, eb1, eb2, qb.1, qb.2, zb, m_isR, ca, cb, true_and, and_true, and_false, false_and, and_self, if_true, if_false, ite_self, Nat.reduceEqDiff, reduceIte, obt, jlt, jbt, jbd_ite, bind_ite]
        exact d1
  · obtain ⟨R', d1, d2⟩ := fail_done (n := n) (C := C) (a := a) (fl := 2) hp (by decide)
    refine ⟨_, _, _, R', ?_, ?_, d2⟩
    · unfold f_X3_item
      simp only [ka, k_2398, ly_v hC ka, A1, cl0, ly_88 hR, ly_89 hR, ly_90 hR, ly_91 hR, pa1, pa2, pa3, ea1, ea2, qa.1, qa.2, za, jid, i10, kb, ly_v hC kb, A2, pb1, pb2, pb3, eb1, eb2, qb.1, qb.2, zb, c_isR0 ka ca, true_and, and_true, and_false, false_and, and_self, if_true, if_false, ite_self, Nat.reduceEqDiff, reduceIte, obt, jlt, jbt, jbd_ite, bind_ite]
    · unfold f_X12_item f_X12_item_21
      simp only [ka, k_2398, ly_v hC ka, A1, cl0, ly_88 hR, ly_89 hR, ly_90 hR, ly_91 hR, pa1, pa2, pa3, ea1, ea2, qa.1, qa.2, za, jid, i10, kb, ly_v hC kb, A2, pb1, pb2, pb3, eb1, eb2, qb.1, qb.2, zb, m_isR, ca, true_and, and_true, and_false, false_and, and_self, if_true, if_false, ite_self, Nat.reduceEqDiff, reduceIte, obt, jlt, jbt, jbd_ite, bind_ite]
      exact d1
theorem c3 {s i t : Nat} (hs : s < 1500) (h : i + t < 12) : ((((12 : Int32) * nI s) + nI i) + nI t).toInt = ((12 * s + i + t : Nat) : Int) := by
  have h1 := i12 (v := nI s) (w := nI i) (s := s) (i := i) (nI_toInt (by omega)) hs (nI_toInt (by omega)) (by omega)
  have h2 : (nI t).toInt = t := nI_toInt (by omega)
  rw [i_add (by rw [h1, h2]; omega) (by rw [h1, h2]; omega), h1, h2]; omega
theorem put_loop {to from' j i n : Nat} (ht : to < 1500) (hf : from' < 1500) (hne : to ≠ from') (hj : j + n ≤ 12) (hi : i + n ≤ 12) : ∀ (k fuel : Nat) (R : jM) (t : Nat), k < fuel → t + k = n → Lay R →
    ∃ R' : jM, f_X12_put_3 fuel 2398 (nI to) (nI j) (nI from') (nI i) (nI n) (nI t) R = some R' ∧ Fr qV R R' ∧ jAI R' = jAI R ∧ (∀ z : Nat, jAL R' 2401 z = if 12 * to + j + t ≤ z ∧ z < 12 * to + j + n then jAL R 2401 (12 * from' + i + (z - (12 * to + j))) else jAL R 2401 z) ∧ (∀ z : Nat, jAD R' 2402 z = if 12 * to + j + t ≤ z ∧ z < 12 * to + j + n then jAD R 2402 (12 * from' + i + (z - (12 * to + j))) else jAD R 2402 z) := by
  intro k
  induction k with
  | zero =>
    intro fuel R t hfu htk hR
    obtain ⟨m, rfl⟩ : ∃ m, fuel = m + 1 := ⟨fuel - 1, by omega⟩
    rw [f_X12_put_3, if_pos (by rw [i_le, nI_toInt (by omega), nI_toInt (by omega)]; omega)]
    exact ⟨R, rfl, Fr.refl, rfl, fun z => by rw [if_neg (by omega)], fun z => by rw [if_neg (by omega)]⟩
  | succ k ih =>
    intro fuel R t hfu htk hR
    obtain ⟨m, rfl⟩ : ∃ m, fuel = m + 1 := ⟨fuel - 1, by omega⟩
    have a1 := c3 (s := to) (i := j) (t := t) ht (by omega)
    have a2 := c3 (s := from') (i := i) (t := t) hf (by omega)
    have b1 : ((((12 : Int32) * nI to) + nI j) + nI t).toNatClampNeg = 12 * to + j + t := by rw [i_cl, a1]; omega
    have b2 : ((((12 : Int32) * nI from') + nI i) + nI t).toNatClampNeg = 12 * from' + i + t := by rw [i_cl, a2]; omega
    have A1 : jA 2401 14 ((((12 : Int32) * nI to) + nI j) + nI t) = true := jA_iff.mpr ⟨k_2401, by omega, by rw [ln_2401]; omega⟩
    have A2 : jA 2401 14 ((((12 : Int32) * nI from') + nI i) + nI t) = true := jA_iff.mpr ⟨k_2401, by omega, by rw [ln_2401]; omega⟩
    have A3 : jA 2402 12 ((((12 : Int32) * nI to) + nI j) + nI t) = true := jA_iff.mpr ⟨k_2402, by omega, by rw [ln_2402]; omega⟩
    have A4 : jA 2402 12 ((((12 : Int32) * nI from') + nI i) + nI t) = true := jA_iff.mpr ⟨k_2402, by omega, by rw [ln_2402]; omega⟩
    have hnx : nI t + (1 : Int32) = nI (t + 1) := by rw [i_eq, i_add1 (by rw [nI_toInt (by omega)]; omega), nI_toInt (by omega), nI_toInt (by omega)]; omega
    have hF : Fr qV R (jrD (jrL R 2401 (vp_updL (jAL R 2401) (12 * to + j + t) (jAL R 2401 (12 * from' + i + t)))) 2402 (vf_upd (jAD R 2402) (12 * to + j + t) (jAD R 2402 (12 * from' + i + t)))) := ((Fr.refl).rL (by unfold qV; omega)).rD (by unfold qV; omega)
    obtain ⟨R', g1, g2, g3, g4, g5⟩ := ih m _ (t + 1) (by omega) (by omega) (hR.frV hF)
    rw [f_X12_put_3, if_neg (by rw [i_le, nI_toInt (by omega), nI_toInt (by omega)]; omega)]
    simp only [k_2398, ly_90 hR, ly_91 hR, A1, A2, A3, A4, b1, b2, hnx, m_I_sI, m_L_sI, m_R_sI, m_AI_sI, m_AL_sI, m_AD_sI, m_AR_sI, m_n_sI, m_I_sL, m_L_sL, m_R_sL, m_AI_sL, m_AL_sL, m_AD_sL, m_AR_sL, m_n_sL, m_I_sR, m_L_sR, m_R_sR, m_AI_sR, m_AL_sR, m_AD_sR, m_AR_sR, m_n_sR, m_I_rI, m_L_rI, m_R_rI, m_AI_rI, m_AL_rI, m_AD_rI, m_AR_rI, m_n_rI, m_I_rL, m_L_rL, m_R_rL, m_AI_rL, m_AL_rL, m_AD_rL, m_AR_rL, m_n_rL, m_I_rD, m_L_rD, m_R_rD, m_AI_rD, m_AL_rD, m_AD_rD, m_AR_rD, m_n_rD, m_I_rR, m_L_rR, m_R_rR, m_AI_rR, m_AL_rR, m_AD_rR, m_AR_rR, m_n_rR, true_and, and_true, and_false, false_and, and_self, if_true, if_false, ite_self, Nat.reduceEqDiff, reduceIte, obt, jlt, jbt, jbd_ite, bind_ite]
    refine ⟨R', g1, hF.trans g2, by rw [g3]; rfl, fun z => ?_, fun z => ?_⟩
    · rw [g4]
      simp only [m_I_sI, m_L_sI, m_R_sI, m_AI_sI, m_AL_sI, m_AD_sI, m_AR_sI, m_n_sI, m_I_sL, m_L_sL, m_R_sL, m_AI_sL, m_AL_sL, m_AD_sL, m_AR_sL, m_n_sL, m_I_sR, m_L_sR, m_R_sR, m_AI_sR, m_AL_sR, m_AD_sR, m_AR_sR, m_n_sR, m_I_rI, m_L_rI, m_R_rI, m_AI_rI, m_AL_rI, m_AD_rI, m_AR_rI, m_n_rI, m_I_rL, m_L_rL, m_R_rL, m_AI_rL, m_AL_rL, m_AD_rL, m_AR_rL, m_n_rL, m_I_rD, m_L_rD, m_R_rD, m_AI_rD, m_AL_rD, m_AD_rD, m_AR_rD, m_n_rD, m_I_rR, m_L_rR, m_R_rR, m_AI_rR, m_AL_rR, m_AD_rR, m_AR_rR, m_n_rR, true_and, and_true, and_false, false_and, and_self, if_true, if_false, ite_self, Nat.reduceEqDiff, reduceIte, obt, jlt, jbt, jbd_ite, bind_ite, updL_if]
      by_cases e : z = 12 * to + j + t
      · subst e
        rw [if_neg (by omega), if_pos rfl, if_pos (by omega)]
        congr 1; omega
      · rw [if_neg e]
        by_cases e2 : 12 * to + j + (t + 1) ≤ z ∧ z < 12 * to + j + n
        · rw [if_pos e2, if_neg (show ¬ 12 * from' + i + (z - (12 * to + j)) = 12 * to + j + t by omega), if_pos (show 12 * to + j + t ≤ z ∧ z < 12 * to + j + n by omega)]
        · rw [if_neg e2, if_neg (show ¬ (12 * to + j + t ≤ z ∧ z < 12 * to + j + n) by omega)]
    · rw [g5]
      simp only [m_I_sI, m_L_sI, m_R_sI, m_AI_sI, m_AL_sI, m_AD_sI, m_AR_sI, m_n_sI, m_I_sL, m_L_sL, m_R_sL, m_AI_sL, m_AL_sL, m_AD_sL, m_AR_sL, m_n_sL, m_I_sR, m_L_sR, m_R_sR, m_AI_sR, m_AL_sR, m_AD_sR, m_AR_sR, m_n_sR, m_I_rI, m_L_rI, m_R_rI, m_AI_rI, m_AL_rI, m_AD_rI, m_AR_rI, m_n_rI, m_I_rL, m_L_rL, m_R_rL, m_AI_rL, m_AL_rL, m_AD_rL, m_AR_rL, m_n_rL, m_I_rD, m_L_rD, m_R_rD, m_AI_rD, m_AL_rD, m_AD_rD, m_AR_rD, m_n_rD, m_I_rR, m_L_rR, m_R_rR, m_AI_rR, m_AL_rR, m_AD_rR, m_AR_rR, m_n_rR, true_and, and_true, and_false, false_and, and_self, if_true, if_false, ite_self, Nat.reduceEqDiff, reduceIte, obt, jlt, jbt, jbd_ite, bind_ite, updD_if]
      by_cases e : z = 12 * to + j + t
      · subst e
        rw [if_neg (by omega), if_pos rfl, if_pos (by omega)]
        congr 1; omega
      · rw [if_neg e]
        by_cases e2 : 12 * to + j + (t + 1) ≤ z ∧ z < 12 * to + j + n
        · rw [if_pos e2, if_neg (show ¬ 12 * from' + i + (z - (12 * to + j)) = 12 * to + j + t by omega), if_pos (show 12 * to + j + t ≤ z ∧ z < 12 * to + j + n by omega)]
        · rw [if_neg e2, if_neg (by omega)]
theorem put_ok {to from' j i n : Nat} (ht : to < 1500) (hf : from' < 1500) (hne : to ≠ from') (hj : j + n ≤ 12) (hi : i + n ≤ 12) {R : jM} (hR : Lay R) :
    ∃ R' : jM, f_X12_put 2398 (nI to) (nI j) (nI from') (nI i) (nI n) R = some R' ∧ Fr qV R R' ∧ jAI R' = jAI R ∧ (∀ z : Nat, jAL R' 2401 z = if 12 * to + j ≤ z ∧ z < 12 * to + j + n then jAL R 2401 (12 * from' + i + (z - (12 * to + j))) else jAL R 2401 z) ∧ (∀ z : Nat, jAD R' 2402 z = if 12 * to + j ≤ z ∧ z < 12 * to + j + n then jAD R 2402 (12 * from' + i + (z - (12 * to + j))) else jAD R 2402 z) := by
  unfold f_X12_put
  obtain ⟨R', g1, g2, g3, g4, g5⟩ := put_loop ht hf hne hj hi n 1100000 R 0 (by omega) (by omega) hR
  exact ⟨R', g1, g2, g3, g4, g5⟩

/-! PURE: acts on rows: join, with -/
theorem ite01 {P : Prop} [Decidable P] {α : Type} {X Y : α} : (if (if P then (1 : Int32) else 0) = 0 then X else Y) = if P then Y else X := by
  by_cases h : P
  · rw [if_pos h, if_pos h, if_neg (by decide)]
  · rw [if_neg h, if_neg h, if_pos rfl]
theorem n0 : nI 0 = (0 : Int32) := rfl
theorem a_join {n : Int} {C R : jM} {a b sa sb p : Nat} (hC : Lay C) (hR : Lay R) (ka : jK a = 7) (kb : jK b = 7) (ha : VR n C a R sa) (hb : VR n C b R sb) (hp : jI R 92 2398 = nI p) (hp2 : p < 1500) (hsa : sa < p) (hsb : sb < p) (hP : rP C R) (hn : n = (jI C 31 1).toInt) : ∃ fl x C' R', f_X3_join 1 a b C = some (fl, C') ∧ f_X12_join 2398 (nI sa) (nI sb) R = some (x, R') ∧ OpR n C C' a R R' p fl x := by
  obtain ⟨ea1, ea2, ea3⟩ := VR_so ha
  obtain ⟨pa1, pa2, pa3⟩ := apn (show sa < 1500 by omega)
  have A1 : jA (a + 1) 14 (0 : Int32) = true := jAz (kd_val ka).1 (by rw [(kd_val ka).2]; decide)
  have qa := a12p (show sa < 1500 by omega)
  have za := c12p (show sa < 1500 by omega)
  have ia : (nI sa).toInt = sa := nI_toInt (by omega)
  obtain ⟨eb1, eb2, eb3⟩ := VR_so hb
  obtain ⟨pb1, pb2, pb3⟩ := apn (show sb < 1500 by omega)
  have A2 : jA (b + 1) 14 (0 : Int32) = true := jAz (kd_val kb).1 (by rw [(kd_val kb).2]; decide)
  have qb := a12p (show sb < 1500 by omega)
  have zb := c12p (show sb < 1500 by omega)
  have ib : (nI sb).toInt = sb := nI_toInt (by omega)
  by_cases ca : 2 ≤ (jI C 52 a).toInt ∧ (jI C 52 a).toInt ≤ 7
  · have hra : f_X12_isRow (jI C 52 a) = 1 := by rw [m_isR, if_pos ca]
    by_cases cb : 2 ≤ (jI C 52 b).toInt ∧ (jI C 52 b).toInt ≤ 7
    · have hrb : f_X12_isRow (jI C 52 b) = 1 := by rw [m_isR, if_pos cb]
      obtain ⟨Za, hZa, hZae⟩ := sz_n ea3
      obtain ⟨Zb, hZb, hZbe⟩ := sz_n eb3
      have hsum : jI C 53 a + jI C 53 b = nI (Za + Zb) := by rw [hZae, hZbe, nJ_add (by omega)]
      have hle : nI (Za + Zb) ≤ (12 : Int32) ↔ Za + Zb ≤ 12 := by rw [show (12 : Int32) = nI 12 from rfl, nJ_le (by omega) (by omega)]
      have hcl : f_X3_join 1 a b C = if nI (Za + Zb) ≤ (12 : Int32) then (if jI C 52 a = jI C 52 b then f_X3_join_61 1100000 1 a b 0 C else if 5 ≤ (jI C 52 a).toInt ∧ (jI C 52 a).toInt ≤ 7 then (if 5 ≤ (jI C 52 b).toInt ∧ (jI C 52 b).toInt ≤ 7 then f_X3_join_61 1100000 1 a b 0 C else some ((5 : Int32), C)) else some ((5 : Int32), C)) else some ((4 : Int32), C) := by
        unfold f_X3_join f_X3_join_59
        simp only [ka, k_2398, ly_v hC ka, A1, cl0, ly_88 hR, ly_89 hR, ly_90 hR, ly_91 hR, pa1, pa2, pa3, ea1, ea2, qa.1, qa.2, za, jid, i10, kb, ly_v hC kb, A2, pb1, pb2, pb3, eb1, eb2, qb.1, qb.2, zb, c_isR1 ka ca, c_isR1 kb cb, hsum, isKin_ok ka, isKin_ok kb, ite01, true_and, and_true, and_false, false_and, and_self, if_true, if_false, ite_self, Nat.reduceEqDiff, reduceIte, obt, jlt, jbt, jbd_ite, bind_ite]
      have hrf : f_X12_join 2398 (nI sa) (nI sb) R = if nI (Za + Zb) ≤ (12 : Int32) then (if jI C 52 a = jI C 52 b then f_X12_join_101 1100000 2398 (nI sa) (nI sb) 0 R else if 5 ≤ (jI C 52 a).toInt ∧ (jI C 52 a).toInt ≤ 7 then (if 5 ≤ (jI C 52 b).toInt ∧ (jI C 52 b).toInt ≤ 7 then f_X12_join_101 1100000 2398 (nI sa) (nI sb) 0 R else f_X12_failing 2398 5 R) else f_X12_failing 2398 5 R) else f_X12_failing 2398 4 R := by
        unfold f_X12_join f_X12_join_99 f_X12_join_93
        simp only [ka, k_2398, ly_v hC ka, A1, cl0, ly_88 hR, ly_89 hR, ly_90 hR, ly_91 hR, pa1, pa2, pa3, ea1, ea2, qa.1, qa.2, za, jid, i10, kb, ly_v hC kb, A2, pb1, pb2, pb3, eb1, eb2, qb.1, qb.2, zb, hra, hrb, hsum, m_isK, ite01, true_and, and_true, and_false, false_and, and_self, if_true, if_false, ite_self, Nat.reduceEqDiff, reduceIte, obt, jlt, jbt, jbd_ite, bind_ite]
      have fail : ∀ fl : Int32, 1 ≤ fl.toInt ∧ fl.toInt ≤ 6 → ∃ fl' x C' R', some (fl, C) = some (fl', C') ∧ f_X12_failing 2398 fl R = some (x, R') ∧ OpR n C C' a R R' p fl' x := by
        intro fl hfl
        obtain ⟨R', d1, d2⟩ := fail_done (n := n) (C := C) (a := a) (fl := fl) hp hfl
        exact ⟨_, _, _, R', rfl, d1, d2⟩
      rw [hcl, hrf]
      by_cases c12 : nI (Za + Zb) ≤ (12 : Int32)
      · rw [if_pos c12, if_pos c12]
        rw [hle] at c12
        -- the good end
        have good : (jI C 52 a = jI C 52 b ∨ (5 ≤ (jI C 52 a).toInt ∧ (jI C 52 a).toInt ≤ 7) ∧ (5 ≤ (jI C 52 b).toInt ∧ (jI C 52 b).toInt ≤ 7)) → ∃ fl x C' R', some ((0 : Int32), jEnd a b C) = some (fl, C') ∧ f_X12_join_159 2398 (nI sa) (nI sb) R = some (x, R') ∧ OpR n C C' a R R' p fl x := by
          intro hso
          obtain ⟨R1, m1, m2, m3, m4, m5, m6, m7, m8, m9⟩ := made_ok hR hp hp2 (jI C 52 a) (nI (Za + Zb))
          have hR1 := hR.frK m2
          obtain ⟨R2, u1, u2, u3, u4, u5⟩ := put_ok (to := p) (from' := sa) (j := 0) (i := 0) (n := Za) hp2 (by omega) (by omega) (by omega) (by omega) hR1
          have hR2 := hR1.frV u2
          obtain ⟨R3, w1, w2, w3, w4, w5⟩ := put_ok (to := p) (from' := sb) (j := Za) (i := 0) (n := Zb) hp2 (by omega) (by omega) (by omega) (by omega) hR2
          have e53a : jAI R1 2400 sa = nI Za := by rw [m7, upd_if, if_neg (by omega), ea2]; exact hZae
          have e53a2 : jAI R2 2400 sa = nI Za := by rw [u3]; exact e53a
          have e53b2 : jAI R2 2400 sb = nI Zb := by rw [u3, m7, upd_if, if_neg (by omega), eb2]; exact hZbe
          have hgap : ∀ z, ¬ (12 * p ≤ z ∧ z < 12 * p + 12) → jAL R3 2401 z = jAL R 2401 z ∧ jAD R3 2402 z = jAD R 2402 z := fun z hz => by
            rw [w4, w5, if_neg (by omega), if_neg (by omega), u4, u5, if_neg (by omega), if_neg (by omega), m8, m9, if_neg hz, if_neg hz]; exact ⟨rfl, rfl⟩
          have hFj : Fr (pV a) C (jEnd a b C) := (frL (C := C) (v := a)).sI (by unfold pV; omega)
          refine ⟨0, nI p, _, R3, rfl, ?_, opr_new hFj (m2.trans ((u2.trans w2).mono (fun _ _ _ => qV_K))) ?_ ?_ ?_ (fun s hs => ?_) ?_ hp2⟩
          · unfold f_X12_join_159
            simp only [ka, k_2398, ly_v hC ka, A1, cl0, ly_88 hR, ly_89 hR, ly_90 hR, ly_91 hR, pa1, pa2, pa3, ea1, ea2, qa.1, qa.2, za, jid, i10, kb, ly_v hC kb, A2, pb1, pb2, pb3, eb1, eb2, qb.1, qb.2, zb, hsum, m1, ly_89 hR1, e53a, true_and, and_true, and_false, false_and, and_self, if_true, if_false, ite_self, Nat.reduceEqDiff, reduceIte, obt, jlt, jbt, jbd_ite, bind_ite]
            rw [n0] at u1
            rw [u1, obt]
            simp only [ka, k_2398, ly_v hC ka, A1, cl0, ly_88 hR, ly_89 hR, ly_90 hR, ly_91 hR, pa1, pa2, pa3, ea1, ea2, qa.1, qa.2, za, jid, i10, kb, ly_v hC kb, A2, pb1, pb2, pb3, eb1, eb2, qb.1, qb.2, zb, ly_89 hR2, e53a2, e53b2, true_and, and_true, and_false, false_and, and_self, if_true, if_false, ite_self, Nat.reduceEqDiff, reduceIte, obt, jlt, jbt, jbd_ite, bind_ite]
            rw [n0] at w1
            rw [w1, obt]
          · rw [w2.i (by unfold qV; omega), u2.i (by unfold qV; omega)]; exact m3
          · rw [w2.i (by unfold qV; omega), u2.i (by unfold qV; omega)]; exact m4
          · rw [w2.i (by unfold qV; omega), u2.i (by unfold qV; omega)]; exact m5
          · exact made_sS (so := jI C 52 a) (n := nI (Za + Zb)) (by rw [w3, u3]; exact m6) (by rw [w3, u3]; exact m7) (fun j hj => (hgap j hj).1) (fun j hj => (hgap j hj).2) hs
          · have j1 : jI (jEnd a b C) 52 a = jI C 52 a := by unfold jEnd; simp only [m_I_sI, m_L_sI, m_R_sI, m_AI_sI, m_AL_sI, m_AD_sI, m_AR_sI, m_n_sI, m_I_sL, m_L_sL, m_R_sL, m_AI_sL, m_AL_sL, m_AD_sL, m_AR_sL, m_n_sL, m_I_sR, m_L_sR, m_R_sR, m_AI_sR, m_AL_sR, m_AD_sR, m_AR_sR, m_n_sR, m_I_rI, m_L_rI, m_R_rI, m_AI_rI, m_AL_rI, m_AD_rI, m_AR_rI, m_n_rI, m_I_rL, m_L_rL, m_R_rL, m_AI_rL, m_AL_rL, m_AD_rL, m_AR_rL, m_n_rL, m_I_rD, m_L_rD, m_R_rD, m_AI_rD, m_AL_rD, m_AD_rD, m_AR_rD, m_n_rD, m_I_rR, m_L_rR, m_R_rR, m_AI_rR, m_AL_rR, m_AD_rR, m_AR_rR, m_n_rR]; rw [if_neg (by omega)]
            have j2 : jI (jEnd a b C) 53 a = nI (Za + Zb) := by unfold jEnd; simp only [m_I_sI, m_L_sI, m_R_sI, m_AI_sI, m_AL_sI, m_AD_sI, m_AR_sI, m_n_sI, m_I_sL, m_L_sL, m_R_sL, m_AI_sL, m_AL_sL, m_AD_sL, m_AR_sL, m_n_sL, m_I_sR, m_L_sR, m_R_sR, m_AI_sR, m_AL_sR, m_AD_sR, m_AR_sR, m_n_sR, m_I_rI, m_L_rI, m_R_rI, m_AI_rI, m_AL_rI, m_AD_rI, m_AR_rI, m_n_rI, m_I_rL, m_L_rL, m_R_rL, m_AI_rL, m_AL_rL, m_AD_rL, m_AR_rL, m_n_rL, m_I_rD, m_L_rD, m_R_rD, m_AI_rD, m_AL_rD, m_AD_rD, m_AR_rD, m_n_rD, m_I_rR, m_L_rR, m_R_rR, m_AI_rR, m_AL_rR, m_AD_rR, m_AR_rR, m_n_rR, true_and, and_true, and_false, false_and, and_self, if_true, if_false, ite_self, Nat.reduceEqDiff, reduceIte, obt, jlt, jbt, jbd_ite, bind_ite]; exact hsum
            have j3 : ∀ z, jAL (jEnd a b C) (a + 1) z = if Za ≤ z ∧ z < Za + Zb then jAL C (b + 1) (z - Za) else jAL C (a + 1) z := by
              intro z
              unfold jEnd
              simp only [m_I_sI, m_L_sI, m_R_sI, m_AI_sI, m_AL_sI, m_AD_sI, m_AR_sI, m_n_sI, m_I_sL, m_L_sL, m_R_sL, m_AI_sL, m_AL_sL, m_AD_sL, m_AR_sL, m_n_sL, m_I_sR, m_L_sR, m_R_sR, m_AI_sR, m_AL_sR, m_AD_sR, m_AR_sR, m_n_sR, m_I_rI, m_L_rI, m_R_rI, m_AI_rI, m_AL_rI, m_AD_rI, m_AR_rI, m_n_rI, m_I_rL, m_L_rL, m_R_rL, m_AI_rL, m_AL_rL, m_AD_rL, m_AR_rL, m_n_rL, m_I_rD, m_L_rD, m_R_rD, m_AI_rD, m_AL_rD, m_AD_rD, m_AR_rD, m_n_rD, m_I_rR, m_L_rR, m_R_rR, m_AI_rR, m_AL_rR, m_AD_rR, m_AR_rR, m_n_rR, true_and, and_true, and_false, false_and, and_self, if_true, if_false, ite_self, Nat.reduceEqDiff, reduceIte, obt, jlt, jbt, jbd_ite, bind_ite]
              unfold va_cpy
              rw [hZae, hZbe, nJ_cl (by omega), nJ_cl (by omega), Nat.zero_add]
            unfold VR VV
            rw [j1, j2, w3, u3, m6, m7, upd_if, upd_if, if_pos rfl, if_pos rfl]
            refine ⟨rfl, rfl, ⟨ea3.1, ea3.2.1, by rw [nI_toInt (by omega)]; omega, by rw [nI_toInt (by omega)]; omega, fun z => by omega⟩, fun j hj => ?_⟩
            have hjN : j < Za + Zb := by unfold vlen at hj; rw [if_pos ca, nI_toInt (by omega)] at hj; omega
            show vitem n (jI C 52 a) _ (jAL R3 2401 (12 * p + j)) (jAD R3 2402 (12 * p + j))
            rw [j3]
            by_cases cj : Za ≤ j
            · rw [if_pos ⟨cj, hjN⟩, w4, w5, if_pos (by omega), if_pos (by omega), u4, u5, if_neg (by omega), if_neg (by omega), m8, m9, if_neg (by omega), if_neg (by omega)]
              rw [show 12 * sb + 0 + (12 * p + j - (12 * p + Za)) = 12 * sb + (j - Za) by omega]
              have hit := VR_it hb (j := j - Za) (by unfold vlen; rw [if_pos cb, hZbe, nI_toInt (by omega)]; omega)
              rcases hso with e | ⟨q1, q2⟩
              · rw [e]; exact hit
              · unfold vitem at hit ⊢
                rw [if_neg (by omega)] at hit ⊢
                exact ⟨hit.1, fun _ => hit.2.1 q2.1, fun z => by omega⟩
            · rw [if_neg (by omega), w4, w5, if_neg (by omega), if_neg (by omega), u4, u5, if_pos (by omega), if_pos (by omega), m8, m9, if_neg (by omega), if_neg (by omega)]
              rw [show 12 * sa + 0 + (12 * p + j - (12 * p + 0)) = 12 * sa + j by omega]
              exact VR_it ha (j := j) (by unfold vlen; rw [if_pos ca, hZae, nI_toInt (by omega)]; omega)
        have kin_case : (5 ≤ (jI C 52 a).toInt ∧ (jI C 52 a).toInt ≤ 7) → (5 ≤ (jI C 52 b).toInt ∧ (jI C 52 b).toInt ≤ 7) → ∃ fl x C' R', f_X3_join_61 1100000 1 a b 0 C = some (fl, C') ∧ f_X12_join_101 1100000 2398 (nI sa) (nI sb) 0 R = some (x, R') ∧ OpR n C C' a R R' p fl x := by
          intro q1 q2
          have hjl := join_loop hC hR hP hn ka kb ha hb (by omega) (by omega) q1 q2 hZae hZbe c12 Zb 1100000 1100000 0 (by omega) (by omega) (by omega)
          rw [n0] at hjl
          rcases hjl with ⟨y1, y2⟩ | ⟨y1, y2⟩
          · rw [y1, y2]; exact fail 5 (by decide)
          · rw [y1, y2]; exact good (.inr ⟨q1, q2⟩)
        by_cases ce : jI C 52 a = jI C 52 b
        · rw [if_pos ce, if_pos ce]
          by_cases q1 : 5 ≤ (jI C 52 a).toInt ∧ (jI C 52 a).toInt ≤ 7
          · exact kin_case q1 (by rw [← ce]; exact q1)
          · have hjn := join_num hC ka kb q1 hZae hZbe c12 Zb 1100000 0 (by omega) (by omega)
            rw [n0] at hjn
            rw [hjn]
            have e101 : f_X12_join_101 (1099999 + 1) 2398 (nI sa) (nI sb) 0 R = f_X12_join_159 2398 (nI sa) (nI sb) R := by
              have hk0 : f_X12_isKin (jI C 52 a) = 0 := by rw [m_isK, if_neg q1]
              rw [f_X12_join_101]
              simp only [ka, k_2398, ly_v hC ka, A1, cl0, ly_88 hR, ly_89 hR, ly_90 hR, ly_91 hR, pa1, pa2, pa3, ea1, ea2, qa.1, qa.2, za, jid, i10, kb, ly_v hC kb, A2, pb1, pb2, pb3, eb1, eb2, qb.1, qb.2, zb, hk0, true_and, and_true, and_false, false_and, and_self, if_true, if_false, ite_self, Nat.reduceEqDiff, reduceIte, obt, jlt, jbt, jbd_ite, bind_ite]
            rw [show (1100000 : Nat) = 1099999 + 1 from rfl, e101]
            exact good (.inl ce)
        · rw [if_neg ce, if_neg ce]
          by_cases q1 : 5 ≤ (jI C 52 a).toInt ∧ (jI C 52 a).toInt ≤ 7
          · rw [if_pos q1, if_pos q1]
            by_cases q2 : 5 ≤ (jI C 52 b).toInt ∧ (jI C 52 b).toInt ≤ 7
            · rw [if_pos q2, if_pos q2]; exact kin_case q1 q2
            · rw [if_neg q2, if_neg q2]; exact fail 5 (by decide)
          · rw [if_neg q1, if_neg q1]; exact fail 5 (by decide)
      · rw [if_neg c12, if_neg c12]; exact fail 4 (by decide)
    · obtain ⟨R', d1, d2⟩ := fail_done (n := n) (C := C) (a := a) (fl := 2) hp (by decide)
      have hrb : f_X12_isRow (jI C 52 b) = 0 := by rw [m_isR, if_neg cb]
      refine ⟨_, _, _, R', ?_, ?_, d2⟩
      · unfold f_X3_join
        simp only [ka, k_2398, ly_v hC ka, A1, cl0, ly_88 hR, ly_89 hR, ly_90 hR, ly_91 hR, pa1, pa2, pa3, ea1, ea2, qa.1, qa.2, za, jid, i10, kb, ly_v hC kb, A2, pb1, pb2, pb3, eb1, eb2, qb.1, qb.2, zb, c_isR1 ka ca, c_isR0 kb cb, true_and, and_true, and_false, false_and, and_self, if_true, if_false, ite_self, Nat.reduceEqDiff, reduceIte, obt, jlt, jbt, jbd_ite, bind_ite]
      · unfold f_X12_join f_X12_join_24
        simp only [ka, k_2398, ly_v hC ka, A1, cl0, ly_88 hR, ly_89 hR, ly_90 hR, ly_91 hR, pa1, pa2, pa3, ea1, ea2, qa.1, qa.2, za, jid, i10, kb, ly_v hC kb, A2, pb1, pb2, pb3, eb1, eb2, qb.1, qb.2, zb, hra, hrb, true_and, and_true, and_false, false_and, and_self, if_true, if_false, ite_self, Nat.reduceEqDiff, reduceIte, obt, jlt, jbt, jbd_ite, bind_ite]
        exact d1
  · obtain ⟨R', d1, d2⟩ := fail_done (n := n) (C := C) (a := a) (fl := 2) hp (by decide)
    have hra : f_X12_isRow (jI C 52 a) = 0 := by rw [m_isR, if_neg ca]
    refine ⟨_, _, _, R', ?_, ?_, d2⟩
    · unfold f_X3_join
      simp only [ka, k_2398, ly_v hC ka, A1, cl0, ly_88 hR, ly_89 hR, ly_90 hR, ly_91 hR, pa1, pa2, pa3, ea1, ea2, qa.1, qa.2, za, jid, i10, kb, ly_v hC kb, A2, pb1, pb2, pb3, eb1, eb2, qb.1, qb.2, zb, c_isR0 ka ca, true_and, and_true, and_false, false_and, and_self, if_true, if_false, ite_self, Nat.reduceEqDiff, reduceIte, obt, jlt, jbt, jbd_ite, bind_ite]
    · unfold f_X12_join f_X12_join_24
      simp only [ka, k_2398, ly_v hC ka, A1, cl0, ly_88 hR, ly_89 hR, ly_90 hR, ly_91 hR, pa1, pa2, pa3, ea1, ea2, qa.1, qa.2, za, jid, i10, kb, ly_v hC kb, A2, pb1, pb2, pb3, eb1, eb2, qb.1, qb.2, zb, hra, true_and, and_true, and_false, false_and, and_self, if_true, if_false, ite_self, Nat.reduceEqDiff, reduceIte, obt, jlt, jbt, jbd_ite, bind_ite]
      exact d1

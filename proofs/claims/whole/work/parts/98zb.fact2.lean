/-! PURE: a FACT: the call -/
theorem q_fact {C R : jM} (hC : Lay C) (hR : Lay R) (h : Rel C R) (m d a : Int32) : Sim (f_X11_fact 0 m d a) (f_X12_fact 2398 m d a) C R := by
  obtain ⟨w, C1, R1, t1, t2, h1, F1, G1⟩ := rel_name hC hR h
  have hC1 : Lay C1 := hC.frC F1
  have hR1 : Lay R1 := hR.frR G1
  obtain ⟨f1, f2, f3, f4⟩ := id h1.F
  have hD : VR (jI C1 31 1).toInt C1 605 R1 0 := h1.D
  obtain ⟨ed1, ed2, -⟩ := VR_so hD
  have mI : f_X11_isMember m = 0 ↔ ¬ (0 ≤ m.toInt ∧ m.toInt ≤ 9) := p_isMember
  have mI' : f_X12_in m.toInt64 0 9 = 0 ↔ ¬ (0 ≤ m.toInt ∧ m.toInt ≤ 9) := by rw [in0, i2l_toInt]; exact Iff.rfl
  have dI : f_X11_isDay d = 0 ↔ ¬ (0 ≤ d.toInt ∧ d.toInt ≤ 389) := p_isDay
  have dI' : (if 0 ≤ d.toInt ∧ d.toInt ≤ 389 then (1 : Int32) else 0) = 0 ↔ ¬ (0 ≤ d.toInt ∧ d.toInt ≤ 389) := t_if
  have aI : f_X11_isDay a = 0 ↔ ¬ (0 ≤ a.toInt ∧ a.toInt ≤ 389) := p_isDay
  have aI' : (if 0 ≤ a.toInt ∧ a.toInt ≤ 389 then (1 : Int32) else 0) = 0 ↔ ¬ (0 ≤ a.toInt ∧ a.toInt ≤ 389) := t_if
  have a88 : jA 2399 13 0 = true := jA_n (i := 0) k_2399 (by rw [ln_2399]; omega) (by omega)
  unfold Sim f_X11_fact f_X12_fact
  rw [if_pos k_0, ly_72 hC, obt, if_pos k_608, t1, jbt, if_pos k_2398, t2, jbt]
  by_cases c1 : 0 ≤ m.toInt ∧ m.toInt ≤ 9
  · rw [if_neg (fun z => mI.mp z c1), if_neg (fun z => mI'.mp z c1), p_mDay, obt]
    by_cases c2 : 0 ≤ d.toInt ∧ d.toInt ≤ 389
    · rw [if_neg (fun z => dI.mp z c2), if_neg (fun z => dI'.mp z c2), p_mDay, obt]
      by_cases c3 : 0 ≤ a.toInt ∧ a.toInt ≤ 389
      · rw [if_neg (fun z => aI.mp z c3), if_neg (fun z => aI'.mp z c3)]
        by_cases cda : d ≤ a
        · rw [if_pos cda, if_pos cda]
          by_cases c4 : w = 0
          · rw [if_pos c4, if_pos c4]
            exact ⟨_, _, _, rfl, rfl, h1, F1, G1⟩
          · rw [if_neg c4, if_neg c4, ly_70 hC1, obt, if_pos k_605, ly_88 hR1, obt, if_pos a88, cl0, ed1]
            by_cases c8 : jI C1 52 605 = 8
            · rw [if_pos c8, if_pos c8]
              exact ⟨_, _, _, rfl, rfl, h1, F1, G1⟩
            · rw [if_neg c8, if_neg c8, ly_69 hC1, obt, if_pos k_1, ← f1]
              by_cases c200 : jI C1 34 1 = 200
              · rw [if_pos c200, if_pos c200]
                exact ⟨_, _, _, rfl, rfl, h1, F1, G1⟩
              · rw [if_neg c200, if_neg c200]
                obtain ⟨i, hi'⟩ : ∃ i : Nat, (jI C1 34 1).toInt = i := ⟨(jI C1 34 1).toInt.toNat, by omega⟩
                have h34 : jI C1 34 1 = nI i := nI_is hi' (by omega)
                have hi : i < 200 := by
                  have : (jI C1 34 1).toInt ≠ 200 := fun z => c200 (i_eq.mpr z)
                  omega
                have h146 : jI R1 146 2398 = nI i := by rw [← f1]; exact h34
                have ck : (nI i).toNatClampNeg = i := nJ_cl (by omega)
                have a4' : jA 4 17 (nI i) = true := jA_n k_4 (by rw [ln_4]; omega) (by omega)
                have hLw : Lay (fcC i m w d a C1) := hC1.fr fcC_fr (fun f a z => by unfold pFc at z; omega) (fun b z => by
                  unfold pFc at z
                  have hv := kd_val (kf_factv hi)
                  rcases z with z | z | z | z | z
                  · omega
                  · omega
                  · omega
                  · rw [z.2]; omega
                  · omega)
                have hDw : VR (jI C1 31 1).toInt (fcC i m w d a C1) 605 R1 0 := hD.c (fcC_fr.sP (fun t f => by unfold pFc; omega)) (fcC_fr.sP (fun t f => by unfold pFc; omega)) sS.refl
                obtain ⟨Cb, s1, s2, s3⟩ := setTo_vr hLw (kf_factv hi) k_605 (by omega) hDw
                have hLr : Lay (fcR i m w d a R1) := hR1.fr fcR_fr (fun f a z => by omega) (fun b z => by have := k16r b; omega)
                obtain ⟨Rb, u1, u2, u3, u4⟩ := copy_vr hLr (s := 1 + i) (q := 0) (by omega) (by omega) (v := (1 : Int32) + nI i) (w := 0) (by rw [show (1 : Int32) + nI i = nI (1 + i) from nJ_add (a := 1) (b := i) (by omega), nI_toInt (by omega)]) rfl
                obtain ⟨r1, r2, r3⟩ := fact_rel h1 hi h34 s2 s3 u2 u3 u4
                have b34 : jI Cb 34 1 = nI i := by rw [s2.i (by unfold pV; omega), show jI (fcC i m w d a C1) 34 1 = jI C1 34 1 from by unfold fcC; simp only [m_I_sI, m_L_sI, m_R_sI, m_AI_sI, m_AL_sI, m_AD_sI, m_AR_sI, m_n_sI, m_I_sL, m_L_sL, m_R_sL, m_AI_sL, m_AL_sL, m_AD_sL, m_AR_sL, m_n_sL, m_I_sR, m_L_sR, m_R_sR, m_AI_sR, m_AL_sR, m_AD_sR, m_AR_sR, m_n_sR, m_I_rI, m_L_rI, m_R_rI, m_AI_rI, m_AL_rI, m_AD_rI, m_AR_rI, m_n_rI, m_I_rL, m_L_rL, m_R_rL, m_AI_rL, m_AL_rL, m_AD_rL, m_AR_rL, m_n_rL, m_I_rD, m_L_rD, m_R_rD, m_AI_rD, m_AL_rD, m_AD_rD, m_AR_rD, m_n_rD, m_I_rR, m_L_rR, m_R_rR, m_AI_rR, m_AL_rR, m_AD_rR, m_AR_rR, m_n_rR, true_and, and_true, and_false, false_and, and_self, if_true, if_false, ite_self, Nat.reduceEqDiff, reduceIte, obt, jlt, jbt, jbd_ite, bind_ite]]; exact h34
                have e146 : jI Rb 146 2398 = nI i := by rw [u2.i (by unfold qV; omega), fcR_fr.i (by omega)]; exact h146
                have aI3 : ∀ b, (b = 2429 ∨ b = 2431 ∨ b = 2432 ∨ b = 2433 ∨ b = 2434) → jA b 13 (nI i) = true := fun b hb => by
                  rcases hb with e | e | e | e | e
                  · rw [e]; exact jA_n k_2429 (by rw [ln_2429]; omega) (by omega)
                  · rw [e]; exact jA_n k_2431 (by rw [ln_2431]; omega) (by omega)
                  · rw [e]; exact jA_n k_2432 (by rw [ln_2432]; omega) (by omega)
                  · rw [e]; exact jA_n k_2433 (by rw [ln_2433]; omega) (by omega)
                  · rw [e]; exact jA_n k_2434 (by rw [ln_2434]; omega) (by omega)
                have q29 := aI3 2429 (by omega)
                have q31 := aI3 2431 (by omega)
                have q32 := aI3 2432 (by omega)
                have q33 := aI3 2433 (by omega)
                have q34 := aI3 2434 (by omega)
                have q30 : jA 2430 14 (nI i) = true := jA_n k_2430 (by rw [ln_2430]; omega) (by omega)
                have l69 : jR Cb 69 0 = some 1 := by rw [s2.r (by unfold pV; omega), fcC_fr.r (by unfold pFc; omega)]; exact ly_69 hC1
                have l23 : jR C1 23 (5 + 3 * i) = some (6 + 3 * i) := by rw [ly_fv hC1 (kf_fact hi), show 5 + 3 * i + 1 = 6 + 3 * i by omega]
                have hr1 : nI (i + 1) - (1 : Int32) = nI i := nJ_sub (a := i + 1) (b := 1) (by omega) (by omega)
                have hn1 : nI i + (1 : Int32) = nI (i + 1) := nJ_1 (by omega)
                unfold fcC at s1
                unfold fcR at u1
                refine ⟨nI i, _, _, ?_, ?_, r1, F1.trans r2, G1.trans r3⟩
                · simp only [k_1, k_605, ly_69 hC1, ly_70 hC1, ly_35 hC1, h34, a4', ck, ly_bk hC1 hi, kf_fact hi, kf_factv hi, l23, l69, b34, hn1, s1, m_I_sI, m_L_sI, m_R_sI, m_AI_sI, m_AL_sI, m_AD_sI, m_AR_sI, m_n_sI, m_I_sL, m_L_sL, m_R_sL, m_AI_sL, m_AL_sL, m_AD_sL, m_AR_sL, m_n_sL, m_I_sR, m_L_sR, m_R_sR, m_AI_sR, m_AL_sR, m_AD_sR, m_AR_sR, m_n_sR, m_I_rI, m_L_rI, m_R_rI, m_AI_rI, m_AL_rI, m_AD_rI, m_AR_rI, m_n_rI, m_I_rL, m_L_rL, m_R_rL, m_AI_rL, m_AL_rL, m_AD_rL, m_AR_rL, m_n_rL, m_I_rD, m_L_rD, m_R_rD, m_AI_rD, m_AL_rD, m_AD_rD, m_AR_rD, m_n_rD, m_I_rR, m_L_rR, m_R_rR, m_AI_rR, m_AL_rR, m_AD_rR, m_AR_rR, m_n_rR, true_and, and_true, and_false, false_and, and_self, if_true, if_false, ite_self, Nat.reduceEqDiff, reduceIte, obt, jlt, jbt, jbd_ite, bind_ite]
                · simp only [k_2398, ly_140 hR1, ly_141 hR1, ly_142 hR1, ly_143 hR1, ly_144 hR1, ly_145 hR1, h146, h34, q29, q30, q31, q32, q33, q34, ck, e146, hn1, hr1, u1, m_I_sI, m_L_sI, m_R_sI, m_AI_sI, m_AL_sI, m_AD_sI, m_AR_sI, m_n_sI, m_I_sL, m_L_sL, m_R_sL, m_AI_sL, m_AL_sL, m_AD_sL, m_AR_sL, m_n_sL, m_I_sR, m_L_sR, m_R_sR, m_AI_sR, m_AL_sR, m_AD_sR, m_AR_sR, m_n_sR, m_I_rI, m_L_rI, m_R_rI, m_AI_rI, m_AL_rI, m_AD_rI, m_AR_rI, m_n_rI, m_I_rL, m_L_rL, m_R_rL, m_AI_rL, m_AL_rL, m_AD_rL, m_AR_rL, m_n_rL, m_I_rD, m_L_rD, m_R_rD, m_AI_rD, m_AL_rD, m_AD_rD, m_AR_rD, m_n_rD, m_I_rR, m_L_rR, m_R_rR, m_AI_rR, m_AL_rR, m_AD_rR, m_AR_rR, m_n_rR, true_and, and_true, and_false, false_and, and_self, if_true, if_false, ite_self, Nat.reduceEqDiff, reduceIte, obt, jlt, jbt, jbd_ite, bind_ite]
        · rw [if_neg cda, if_neg cda]
          exact ⟨_, _, _, rfl, rfl, h1, F1, G1⟩
      · rw [if_pos (aI.mpr c3), if_pos (aI'.mpr c3)]
        exact ⟨_, _, _, rfl, rfl, h1, F1, G1⟩
    · rw [if_pos (dI.mpr c2), if_pos (dI'.mpr c2)]
      exact ⟨_, _, _, rfl, rfl, h1, F1, G1⟩
  · rw [if_pos (mI.mpr c1), if_pos (mI'.mpr c1)]
    exact ⟨_, _, _, rfl, rfl, h1, F1, G1⟩

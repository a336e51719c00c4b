/-! PURE: a payment -/
theorem cents_keep {C C' : jM} {x : Int32} (hC : Lay C) (h : f_X1_cents 2071 C = some x) (hI : ∀ f a, a ≠ 0 → jI C' f a = jI C f a) (hR : ∀ f a, jR C' f a = jR C f a) (hAR : ∀ a, jAR C' a = jAR C a) (hAL : ∀ a, a < 2197 → jAL C' a = jAL C a) : f_X1_cents 2071 C' = some x := by
  have hFF : isF 2071 := .inr (.inl rfl)
  obtain ⟨l1, l2, l3, l4, l5⟩ := hC.2.2.2.2.2.1 2071 hFF.k
  have l5' : ∀ r : Nat, r < 24 → jAR C 2075 r = some (2076 + 2 * r) := l5
  unfold f_X1_cents at h ⊢
  rw [if_pos k_2071] at h ⊢
  rw [hI 7 2071 (by decide)]
  by_cases c0 : jI C 7 2071 = 0
  · rw [if_pos c0] at h ⊢
    rw [hR, l4, obt, hI 6 2071 (by decide)]
    rw [l4, obt] at h
    by_cases c1 : jA 2075 19 (jI C 6 2071) = true
    · rw [if_pos c1] at h ⊢
      obtain ⟨q1, q2, q3⟩ := jA_iff.mp c1
      have hl : jLen 2075 = 24 := by decide +kernel
      obtain ⟨r, hr⟩ : ∃ r : Nat, (jI C 6 2071).toInt = r := ⟨(jI C 6 2071).toInt.toNat, by omega⟩
      have hr24 : r < 24 := by omega
      have ec : (jI C 6 2071).toNatClampNeg = r := by rw [i_cl]; omega
      have kf : jK (2076 + 2 * r) = 7 := hFF.fig hr24
      have lv : jR C 54 (2076 + 2 * r) = some (2076 + 2 * r + 1) := ly_v hC kf
      rw [hAR, ec, l5' r hr24, obt, if_pos kf, hI 52 _ (by omega)]
      rw [ec, l5' r hr24, obt, if_pos kf] at h
      by_cases c2 : jI C 52 (2076 + 2 * r) = 0
      · rw [if_pos c2] at h ⊢
        rw [obt, if_pos c1, hAR, l5' r hr24, obt, if_pos kf, hR, lv, obt, hAL _ (by omega)]
        rw [obt, if_pos c1, l5' r hr24, obt, if_pos kf, lv, obt] at h
        exact h
      · rw [if_neg c2] at h ⊢
        exact h
    · rw [if_neg c1] at h
      exact absurd h (by simp)
  · rw [if_neg c0] at h ⊢
    exact h
/-- what a payment may touch -/
def pPy (k t f a : Nat) : Prop := (t = 0 ∧ f = 81 ∧ a = 0) ∨ (t = 3 ∧ a = 2197 + k)
def qPy (t f a : Nat) : Prop := (t = 0 ∧ f = 175 ∧ a = 2398) ∨ (t = 3 ∧ 2445 ≤ a ∧ a ≤ 2450)
theorem pay2_ok {C R : jM} (hC : Lay C) (hR : Lay R) (hA : rA C R) (hY : rY C R) (h84 : jI C 84 0 = jI R 165 2398) {i k : Nat} (hi : (i : Int) < (jI C 79 0).toInt) (hk : jI C 81 0 = nI k) (hk2 : k < 200) (due behind s : Int64) {x : Int32} (hx : f_X1_cents 2071 C = some x) (hd : dueV x R) :
    ∃ C' R', f_X11_pay_34 0 (nI i) due behind s C = some C' ∧ f_X12_pay_105 2398 (nI i) behind due s R = some R' ∧ rY C' R' ∧ Fr (pPy k) C C' ∧ Fr qPy R R' ∧ jI C' 81 0 = nI (k + 1) := by
  obtain ⟨a1, a2, a3, -⟩ := id hA
  obtain ⟨y1, y2, y3, y4, y5⟩ := hY
  have hi6 : i < 6 := by omega
  have ka : jK (2178 + 3 * i) = 0 := kf_award hi6
  obtain ⟨kp, lp⟩ := kf_pay hk2
  rw [Nat.one_mul] at kp lp
  have ci : (nI i).toNatClampNeg = i := nJ_cl (by omega)
  have ck : (nI k).toNatClampNeg = k := nJ_cl (by omega)
  have aP : jA 2196 20 (nI k) = true := jA_n k_2196 (by rw [ln_2196]; omega) (by omega)
  have a77 : jA 2177 16 (nI i) = true := jA_n k_2177 (by rw [ln_2177]; omega) (by omega)
  have b0 : jA (2197 + k) 14 0 = true := jA_n (i := 0) kp (by rw [lp]; omega) (by omega)
  have b1 : jA (2197 + k) 14 1 = true := jA_n (i := 1) kp (by rw [lp]; omega) (by omega)
  have b2 : jA (2197 + k) 14 2 = true := jA_n (i := 2) kp (by rw [lp]; omega) (by omega)
  have b3 : jA (2197 + k) 14 3 = true := jA_n (i := 3) kp (by rw [lp]; omega) (by omega)
  have b4 : jA (2197 + k) 14 4 = true := jA_n (i := 4) kp (by rw [lp]; omega) (by omega)
  have b5 : jA (2197 + k) 14 5 = true := jA_n (i := 5) kp (by rw [lp]; omega) (by omega)
  have b6 : jA (2197 + k) 14 6 = true := jA_n (i := 6) kp (by rw [lp]; omega) (by omega)
  have b7 : jA (2197 + k) 14 7 = true := jA_n (i := 7) kp (by rw [lp]; omega) (by omega)
  have c1 : ((1 : Int32)).toNatClampNeg = 1 := by decide
  have c2 : ((2 : Int32)).toNatClampNeg = 2 := by decide
  have c3 : ((3 : Int32)).toNatClampNeg = 3 := by decide
  have c4 : ((4 : Int32)).toNatClampNeg = 4 := by decide
  have c5 : ((5 : Int32)).toNatClampNeg = 5 := by decide
  have c6 : ((6 : Int32)).toNatClampNeg = 6 := by decide
  have c7 : ((7 : Int32)).toNatClampNeg = 7 := by decide
  have hk' : jI R 175 2398 = nI k := by rw [← y1]; exact hk
  have s1 := nJ_1 (a := k) (by omega)
  have e45 : jA 2445 13 (nI k) = true := jA_n k_2445 (by rw [ln_2445]; omega) (by omega)
  have e46 : jA 2446 13 (nI k) = true := jA_n k_2446 (by rw [ln_2446]; omega) (by omega)
  have e48 : jA 2448 15 (nI k) = true := jA_n k_2448 (by rw [ln_2448]; omega) (by omega)
  have e49 : jA 2449 15 (nI k) = true := jA_n k_2449 (by rw [ln_2449]; omega) (by omega)
  have m4 : (4 : Int32) * nI k = nI (4 * k) := by
    rw [i_eq, i_mul (by rw [nI_toInt (by omega), show (4 : Int32).toInt = 4 from rfl]; omega) (by rw [nI_toInt (by omega), show (4 : Int32).toInt = 4 from rfl]; omega), nI_toInt (by omega), nI_toInt (by omega), show (4 : Int32).toInt = 4 from rfl]; omega
  have m41 : nI (4 * k) + (1 : Int32) = nI (4 * k + 1) := nJ_add (a := 4 * k) (b := 1) (by omega)
  have m42 : nI (4 * k) + (2 : Int32) = nI (4 * k + 2) := nJ_add (a := 4 * k) (b := 2) (by omega)
  have e470 : jA 2447 14 (nI (4 * k)) = true := jA_n k_2447 (by rw [ln_2447]; omega) (by omega)
  have e471 : jA 2447 14 (nI (4 * k + 1)) = true := jA_n k_2447 (by rw [ln_2447]; omega) (by omega)
  have e472 : jA 2447 14 (nI (4 * k + 2)) = true := jA_n k_2447 (by rw [ln_2447]; omega) (by omega)
  have d40 : (nI (4 * k)).toNatClampNeg = 4 * k := nJ_cl (by omega)
  have d41 : (nI (4 * k + 1)).toNatClampNeg = 4 * k + 1 := nJ_cl (by omega)
  have d42 : (nI (4 * k + 2)).toNatClampNeg = 4 * k + 2 := nJ_cl (by omega)
  have z0 : (0 : Int32) = nI 0 := rfl
  have n0 : vp_nar .boolean (0 : Int32) = 0 := nar_b (.inl rfl)
  have h176 : jI R 176 2398 = 0 ∨ jI R 176 2398 = 1 := by
    rcases hd with ⟨-, z⟩ | ⟨-, -, z⟩
    · exact .inr z
    · exact .inl z
  have n1 : vp_nar .boolean (jI R 176 2398) = jI R 176 2398 := nar_b h176
  -- the reference, up to the deductions
  obtain ⟨R2, eR, f45, f46, f47, f48, f49, f50, f175, fR⟩ : ∃ R2, f_X12_pay_105 2398 (nI i) behind due s R = f_X12_pay_202 1100000 2398 (nI i) (nI k) s 0 R2 ∧ jAI R2 2445 = upd (jAI R 2445) k (nI i) ∧ jAI R2 2446 = upd (jAI R 2446) k (jI R 165 2398) ∧ jAL R2 2447 = vp_updL (vp_updL (vp_updL (jAL R 2447) (4 * k) due) (4 * k + 1) behind) (4 * k + 2) s ∧ jAI R2 2448 = upd (jAI R 2448) k 0 ∧ jAI R2 2449 = upd (jAI R 2449) k (jI R 176 2398) ∧ jAI R2 2450 = jAI R 2450 ∧ jI R2 175 2398 = nI (k + 1) ∧ Fr qPy R R2 := by
    refine ⟨jrL (jrL (jrL (jrI (jrI (jrI (jrI (jsI R 175 2398 (nI (k + 1))) 2445 (upd (jAI R 2445) k (nI i))) 2446 (upd (jAI R 2446) k (jI R 165 2398))) 2448 (upd (jAI R 2448) k 0)) 2449 (upd (jAI R 2449) k (jI R 176 2398))) 2447 (vp_updL (jAL R 2447) (4 * k) due)) 2447 (vp_updL (vp_updL (jAL R 2447) (4 * k) due) (4 * k + 1) behind)) 2447 (vp_updL (vp_updL (vp_updL (jAL R 2447) (4 * k) due) (4 * k + 1) behind) (4 * k + 2) s), ?_, ?_, ?_, ?_, ?_, ?_, ?_, ?_, ?_⟩
    · unfold f_X12_pay_105
      simp only [k_2398, hk', s1, m_I_sI, m_L_sI, m_R_sI, m_AI_sI, m_AL_sI, m_AD_sI, m_AR_sI, m_n_sI, m_I_sL, m_L_sL, m_R_sL, m_AI_sL, m_AL_sL, m_AD_sL, m_AR_sL, m_n_sL, m_I_sR, m_L_sR, m_R_sR, m_AI_sR, m_AL_sR, m_AD_sR, m_AR_sR, m_n_sR, m_I_rI, m_L_rI, m_R_rI, m_AI_rI, m_AL_rI, m_AD_rI, m_AR_rI, m_n_rI, m_I_rL, m_L_rL, m_R_rL, m_AI_rL, m_AL_rL, m_AD_rL, m_AR_rL, m_n_rL, m_I_rD, m_L_rD, m_R_rD, m_AI_rD, m_AL_rD, m_AD_rD, m_AR_rD, m_n_rD, m_I_rR, m_L_rR, m_R_rR, m_AI_rR, m_AL_rR, m_AD_rR, m_AR_rR, m_n_rR, ly_169 hR, ly_170 hR, ly_171 hR, ly_172 hR, ly_173 hR, e45, e46, e48, e49, m4, m41, m42, e470, e471, e472, d40, d41, d42, ck, n0, n1, true_and, and_true, and_false, false_and, and_self, if_true, if_false, ite_self, Nat.reduceEqDiff, reduceIte, obt, jlt, jbt, jbd_ite, bind_ite]
    · simp only [m_I_sI, m_L_sI, m_R_sI, m_AI_sI, m_AL_sI, m_AD_sI, m_AR_sI, m_n_sI, m_I_sL, m_L_sL, m_R_sL, m_AI_sL, m_AL_sL, m_AD_sL, m_AR_sL, m_n_sL, m_I_sR, m_L_sR, m_R_sR, m_AI_sR, m_AL_sR, m_AD_sR, m_AR_sR, m_n_sR, m_I_rI, m_L_rI, m_R_rI, m_AI_rI, m_AL_rI, m_AD_rI, m_AR_rI, m_n_rI, m_I_rL, m_L_rL, m_R_rL, m_AI_rL, m_AL_rL, m_AD_rL, m_AR_rL, m_n_rL, m_I_rD, m_L_rD, m_R_rD, m_AI_rD, m_AL_rD, m_AD_rD, m_AR_rD, m_n_rD, m_I_rR, m_L_rR, m_R_rR, m_AI_rR, m_AL_rR, m_AD_rR, m_AR_rR, m_n_rR, true_and, and_true, and_false, false_and, and_self, if_true, if_false, ite_self, Nat.reduceEqDiff, reduceIte, obt, jlt, jbt, jbd_ite, bind_ite]
    · simp only [m_I_sI, m_L_sI, m_R_sI, m_AI_sI, m_AL_sI, m_AD_sI, m_AR_sI, m_n_sI, m_I_sL, m_L_sL, m_R_sL, m_AI_sL, m_AL_sL, m_AD_sL, m_AR_sL, m_n_sL, m_I_sR, m_L_sR, m_R_sR, m_AI_sR, m_AL_sR, m_AD_sR, m_AR_sR, m_n_sR, m_I_rI, m_L_rI, m_R_rI, m_AI_rI, m_AL_rI, m_AD_rI, m_AR_rI, m_n_rI, m_I_rL, m_L_rL, m_R_rL, m_AI_rL, m_AL_rL, m_AD_rL, m_AR_rL, m_n_rL, m_I_rD, m_L_rD, m_R_rD, m_AI_rD, m_AL_rD, m_AD_rD, m_AR_rD, m_n_rD, m_I_rR, m_L_rR, m_R_rR, m_AI_rR, m_AL_rR, m_AD_rR, m_AR_rR, m_n_rR, true_and, and_true, and_false, false_and, and_self, if_true, if_false, ite_self, Nat.reduceEqDiff, reduceIte, obt, jlt, jbt, jbd_ite, bind_ite]
    · simp only [m_I_sI, m_L_sI, m_R_sI, m_AI_sI, m_AL_sI, m_AD_sI, m_AR_sI, m_n_sI, m_I_sL, m_L_sL, m_R_sL, m_AI_sL, m_AL_sL, m_AD_sL, m_AR_sL, m_n_sL, m_I_sR, m_L_sR, m_R_sR, m_AI_sR, m_AL_sR, m_AD_sR, m_AR_sR, m_n_sR, m_I_rI, m_L_rI, m_R_rI, m_AI_rI, m_AL_rI, m_AD_rI, m_AR_rI, m_n_rI, m_I_rL, m_L_rL, m_R_rL, m_AI_rL, m_AL_rL, m_AD_rL, m_AR_rL, m_n_rL, m_I_rD, m_L_rD, m_R_rD, m_AI_rD, m_AL_rD, m_AD_rD, m_AR_rD, m_n_rD, m_I_rR, m_L_rR, m_R_rR, m_AI_rR, m_AL_rR, m_AD_rR, m_AR_rR, m_n_rR, true_and, and_true, and_false, false_and, and_self, if_true, if_false, ite_self, Nat.reduceEqDiff, reduceIte, obt, jlt, jbt, jbd_ite, bind_ite]
    · simp only [m_I_sI, m_L_sI, m_R_sI, m_AI_sI, m_AL_sI, m_AD_sI, m_AR_sI, m_n_sI, m_I_sL, m_L_sL, m_R_sL, m_AI_sL, m_AL_sL, m_AD_sL, m_AR_sL, m_n_sL, m_I_sR, m_L_sR, m_R_sR, m_AI_sR, m_AL_sR, m_AD_sR, m_AR_sR, m_n_sR, m_I_rI, m_L_rI, m_R_rI, m_AI_rI, m_AL_rI, m_AD_rI, m_AR_rI, m_n_rI, m_I_rL, m_L_rL, m_R_rL, m_AI_rL, m_AL_rL, m_AD_rL, m_AR_rL, m_n_rL, m_I_rD, m_L_rD, m_R_rD, m_AI_rD, m_AL_rD, m_AD_rD, m_AR_rD, m_n_rD, m_I_rR, m_L_rR, m_R_rR, m_AI_rR, m_AL_rR, m_AD_rR, m_AR_rR, m_n_rR, true_and, and_true, and_false, false_and, and_self, if_true, if_false, ite_self, Nat.reduceEqDiff, reduceIte, obt, jlt, jbt, jbd_ite, bind_ite]
    · simp only [m_I_sI, m_L_sI, m_R_sI, m_AI_sI, m_AL_sI, m_AD_sI, m_AR_sI, m_n_sI, m_I_sL, m_L_sL, m_R_sL, m_AI_sL, m_AL_sL, m_AD_sL, m_AR_sL, m_n_sL, m_I_sR, m_L_sR, m_R_sR, m_AI_sR, m_AL_sR, m_AD_sR, m_AR_sR, m_n_sR, m_I_rI, m_L_rI, m_R_rI, m_AI_rI, m_AL_rI, m_AD_rI, m_AR_rI, m_n_rI, m_I_rL, m_L_rL, m_R_rL, m_AI_rL, m_AL_rL, m_AD_rL, m_AR_rL, m_n_rL, m_I_rD, m_L_rD, m_R_rD, m_AI_rD, m_AL_rD, m_AD_rD, m_AR_rD, m_n_rD, m_I_rR, m_L_rR, m_R_rR, m_AI_rR, m_AL_rR, m_AD_rR, m_AR_rR, m_n_rR, true_and, and_true, and_false, false_and, and_self, if_true, if_false, ite_self, Nat.reduceEqDiff, reduceIte, obt, jlt, jbt, jbd_ite, bind_ite]
    · simp only [m_I_sI, m_L_sI, m_R_sI, m_AI_sI, m_AL_sI, m_AD_sI, m_AR_sI, m_n_sI, m_I_sL, m_L_sL, m_R_sL, m_AI_sL, m_AL_sL, m_AD_sL, m_AR_sL, m_n_sL, m_I_sR, m_L_sR, m_R_sR, m_AI_sR, m_AL_sR, m_AD_sR, m_AR_sR, m_n_sR, m_I_rI, m_L_rI, m_R_rI, m_AI_rI, m_AL_rI, m_AD_rI, m_AR_rI, m_n_rI, m_I_rL, m_L_rL, m_R_rL, m_AI_rL, m_AL_rL, m_AD_rL, m_AR_rL, m_n_rL, m_I_rD, m_L_rD, m_R_rD, m_AI_rD, m_AL_rD, m_AD_rD, m_AR_rD, m_n_rD, m_I_rR, m_L_rR, m_R_rR, m_AI_rR, m_AL_rR, m_AD_rR, m_AR_rR, m_n_rR, true_and, and_true, and_false, false_and, and_self, if_true, if_false, ite_self, Nat.reduceEqDiff, reduceIte, obt, jlt, jbt, jbd_ite, bind_ite]
    · simp only [m_I_sI, m_L_sI, m_R_sI, m_AI_sI, m_AL_sI, m_AD_sI, m_AR_sI, m_n_sI, m_I_sL, m_L_sL, m_R_sL, m_AI_sL, m_AL_sL, m_AD_sL, m_AR_sL, m_n_sL, m_I_sR, m_L_sR, m_R_sR, m_AI_sR, m_AL_sR, m_AD_sR, m_AR_sR, m_n_sR, m_I_rI, m_L_rI, m_R_rI, m_AI_rI, m_AL_rI, m_AD_rI, m_AR_rI, m_n_rI, m_I_rL, m_L_rL, m_R_rL, m_AI_rL, m_AL_rL, m_AD_rL, m_AR_rL, m_n_rL, m_I_rD, m_L_rD, m_R_rD, m_AI_rD, m_AL_rD, m_AD_rD, m_AR_rD, m_n_rD, m_I_rR, m_L_rR, m_R_rR, m_AI_rR, m_AL_rR, m_AD_rR, m_AR_rR, m_n_rR, true_and, and_true, and_false, false_and, and_self, if_true, if_false, ite_self, Nat.reduceEqDiff, reduceIte, obt, jlt, jbt, jbd_ite, bind_ite]
    · exact ((((((((Fr.refl).sI (by unfold qPy; omega)).rI (by unfold qPy; omega)).rI (by unfold qPy; omega)).rI (by unfold qPy; omega)).rI (by unfold qPy; omega)).rL (by unfold qPy; omega)).rL (by unfold qPy; omega)).rL (by unfold qPy; omega)
  have hR2 : Lay R2 := hR.fr fR (fun f a z => by unfold qPy at z; omega) (fun a z => by have := k16r a; unfold qPy at z; omega)
  -- the class, up to the deductions
  have fC1 : Fr (pPy k) C (jsI C 81 0 (nI (k + 1))) := (Fr.refl).sI (by unfold pPy; omega)
  have hC1 : Lay (jsI C 81 0 (nI (k + 1))) := hC.fr fC1 (fun f a z => by unfold pPy at z; omega) (fun a z => by
    unfold pPy at z
    rcases z with z | ⟨-, z⟩
    · omega
    · left; rw [z, kp]; omega)
  have hA1 : rA (jsI C 81 0 (nI (k + 1))) R2 := rA_f fC1 fR (fun t f a => by unfold cA pPy; omega) (fun t f a => by unfold mA qPy; omega) hA
  obtain ⟨u5, hu5⟩ : ∃ u5, u5 = vp_updL (vp_updL (vp_updL (vp_updL (vp_updL (jAL C (2197 + k)) 0 (nI i).toInt64) 1 (jI C 84 0).toInt64) 2 due) 3 behind) 4 s := ⟨_, rfl⟩
  have t5 : TKr k u5 (jAI R2 2450) u5 (jAI R2 2450) := by
    refine ⟨fun j hj => ?_, fun _ _ => rfl, fun _ _ => rfl⟩
    rw [f50, ← y5 k j hk2 hj, hu5]
    simp only [updL_if]
    rw [if_neg (by omega), if_neg (by omega), if_neg (by omega), if_neg (by omega), if_neg (by omega)]
  obtain ⟨left, u', w', ⟨t1, t2, t3⟩, g1, g2⟩ := take_out hC1 hR2 hA1 (i := i) hi hk2 10 1100000 1100000 0 s u5 (jAI R2 2450) (by omega) (by omega) (by omega) t5
  rw [jrI_id] at g2
  rw [← z0] at g1 g2
  obtain ⟨b, hb, hbx⟩ : ∃ b : Int32, jI R 176 2398 = b ∧ ((x = -1 ∧ b = 1) ∨ (x ≠ -1 ∧ b = 0)) := by
    refine ⟨_, rfl, ?_⟩
    rcases hd with ⟨z1, z2⟩ | ⟨z1, z2, z3⟩
    · exact .inl ⟨z1, z2⟩
    · refine .inr ⟨fun z => ?_, z3⟩
      rw [z] at z1
      exact absurd z1 (by decide)
  have hcents : f_X1_cents 2071 (jrL (jsI C 81 0 (nI (k + 1))) (2197 + k) (vp_updL (vp_updL u' 5 left) 6 0)) = some x := by
    refine cents_keep hC hx (fun f a ha => ?_) (fun f a => ?_) (fun a => ?_) (fun a ha => ?_)
    · simp only [m_I_sI, m_L_sI, m_R_sI, m_AI_sI, m_AL_sI, m_AD_sI, m_AR_sI, m_n_sI, m_I_sL, m_L_sL, m_R_sL, m_AI_sL, m_AL_sL, m_AD_sL, m_AR_sL, m_n_sL, m_I_sR, m_L_sR, m_R_sR, m_AI_sR, m_AL_sR, m_AD_sR, m_AR_sR, m_n_sR, m_I_rI, m_L_rI, m_R_rI, m_AI_rI, m_AL_rI, m_AD_rI, m_AR_rI, m_n_rI, m_I_rL, m_L_rL, m_R_rL, m_AI_rL, m_AL_rL, m_AD_rL, m_AR_rL, m_n_rL, m_I_rD, m_L_rD, m_R_rD, m_AI_rD, m_AL_rD, m_AD_rD, m_AR_rD, m_n_rD, m_I_rR, m_L_rR, m_R_rR, m_AI_rR, m_AL_rR, m_AD_rR, m_AR_rR, m_n_rR, true_and, and_true, and_false, false_and, and_self, if_true, if_false, ite_self, Nat.reduceEqDiff, reduceIte, obt, jlt, jbt, jbd_ite, bind_ite]; rw [if_neg (by omega)]
    · simp only [m_I_sI, m_L_sI, m_R_sI, m_AI_sI, m_AL_sI, m_AD_sI, m_AR_sI, m_n_sI, m_I_sL, m_L_sL, m_R_sL, m_AI_sL, m_AL_sL, m_AD_sL, m_AR_sL, m_n_sL, m_I_sR, m_L_sR, m_R_sR, m_AI_sR, m_AL_sR, m_AD_sR, m_AR_sR, m_n_sR, m_I_rI, m_L_rI, m_R_rI, m_AI_rI, m_AL_rI, m_AD_rI, m_AR_rI, m_n_rI, m_I_rL, m_L_rL, m_R_rL, m_AI_rL, m_AL_rL, m_AD_rL, m_AR_rL, m_n_rL, m_I_rD, m_L_rD, m_R_rD, m_AI_rD, m_AL_rD, m_AD_rD, m_AR_rD, m_n_rD, m_I_rR, m_L_rR, m_R_rR, m_AI_rR, m_AL_rR, m_AD_rR, m_AR_rR, m_n_rR, true_and, and_true, and_false, false_and, and_self, if_true, if_false, ite_self, Nat.reduceEqDiff, reduceIte, obt, jlt, jbt, jbd_ite, bind_ite]
    · simp only [m_I_sI, m_L_sI, m_R_sI, m_AI_sI, m_AL_sI, m_AD_sI, m_AR_sI, m_n_sI, m_I_sL, m_L_sL, m_R_sL, m_AI_sL, m_AL_sL, m_AD_sL, m_AR_sL, m_n_sL, m_I_sR, m_L_sR, m_R_sR, m_AI_sR, m_AL_sR, m_AD_sR, m_AR_sR, m_n_sR, m_I_rI, m_L_rI, m_R_rI, m_AI_rI, m_AL_rI, m_AD_rI, m_AR_rI, m_n_rI, m_I_rL, m_L_rL, m_R_rL, m_AI_rL, m_AL_rL, m_AD_rL, m_AR_rL, m_n_rL, m_I_rD, m_L_rD, m_R_rD, m_AI_rD, m_AL_rD, m_AD_rD, m_AR_rD, m_n_rD, m_I_rR, m_L_rR, m_R_rR, m_AI_rR, m_AL_rR, m_AD_rR, m_AR_rR, m_n_rR, true_and, and_true, and_false, false_and, and_self, if_true, if_false, ite_self, Nat.reduceEqDiff, reduceIte, obt, jlt, jbt, jbd_ite, bind_ite]
    · simp only [m_I_sI, m_L_sI, m_R_sI, m_AI_sI, m_AL_sI, m_AD_sI, m_AR_sI, m_n_sI, m_I_sL, m_L_sL, m_R_sL, m_AI_sL, m_AL_sL, m_AD_sL, m_AR_sL, m_n_sL, m_I_sR, m_L_sR, m_R_sR, m_AI_sR, m_AL_sR, m_AD_sR, m_AR_sR, m_n_sR, m_I_rI, m_L_rI, m_R_rI, m_AI_rI, m_AL_rI, m_AD_rI, m_AR_rI, m_n_rI, m_I_rL, m_L_rL, m_R_rL, m_AI_rL, m_AL_rL, m_AD_rL, m_AR_rL, m_n_rL, m_I_rD, m_L_rD, m_R_rD, m_AI_rD, m_AL_rD, m_AD_rD, m_AR_rD, m_n_rD, m_I_rR, m_L_rR, m_R_rR, m_AI_rR, m_AL_rR, m_AD_rR, m_AR_rR, m_n_rR, true_and, and_true, and_false, false_and, and_self, if_true, if_false, ite_self, Nat.reduceEqDiff, reduceIte, obt, jlt, jbt, jbd_ite, bind_ite]; rw [if_neg (by omega)]
  have eC : f_X11_pay_34 0 (nI i) due behind s C = some (jrL (jsI C 81 0 (nI (k + 1))) (2197 + k) (vp_updL (vp_updL (vp_updL u' 5 left) 6 0) 7 b.toInt64)) := by
    have eT : f_X0_takeFrom (2178 + 3 * i) s (2197 + k) 8 (jrL (jsI C 81 0 (nI (k + 1))) (2197 + k) u5) = some (left, jrL (jsI C 81 0 (nI (k + 1))) (2197 + k) u') := by
      unfold f_X0_takeFrom
      exact g1
    have l76 : jR (jrL (jsI C 81 0 (nI (k + 1))) (2197 + k) (vp_updL (vp_updL u' 5 left) 6 0)) 76 0 = some 2071 := by simp only [m_I_sI, m_L_sI, m_R_sI, m_AI_sI, m_AL_sI, m_AD_sI, m_AR_sI, m_n_sI, m_I_sL, m_L_sL, m_R_sL, m_AI_sL, m_AL_sL, m_AD_sL, m_AR_sL, m_n_sL, m_I_sR, m_L_sR, m_R_sR, m_AI_sR, m_AL_sR, m_AD_sR, m_AR_sR, m_n_sR, m_I_rI, m_L_rI, m_R_rI, m_AI_rI, m_AL_rI, m_AD_rI, m_AR_rI, m_n_rI, m_I_rL, m_L_rL, m_R_rL, m_AI_rL, m_AL_rL, m_AD_rL, m_AR_rL, m_n_rL, m_I_rD, m_L_rD, m_R_rD, m_AI_rD, m_AL_rD, m_AD_rD, m_AR_rD, m_n_rD, m_I_rR, m_L_rR, m_R_rR, m_AI_rR, m_AL_rR, m_AD_rR, m_AR_rR, m_n_rR, true_and, and_true, and_false, false_and, and_self, if_true, if_false, ite_self, Nat.reduceEqDiff, reduceIte, obt, jlt, jbt, jbd_ite, bind_ite]; exact ly_76 hC
    unfold f_X11_pay_34
    simp only [k_0, hk, s1, ly_80 hC, aP, ck, ci, m_I_sI, m_L_sI, m_R_sI, m_AI_sI, m_AL_sI, m_AD_sI, m_AR_sI, m_n_sI, m_I_sL, m_L_sL, m_R_sL, m_AI_sL, m_AL_sL, m_AD_sL, m_AR_sL, m_n_sL, m_I_sR, m_L_sR, m_R_sR, m_AI_sR, m_AL_sR, m_AD_sR, m_AR_sR, m_n_sR, m_I_rI, m_L_rI, m_R_rI, m_AI_rI, m_AL_rI, m_AD_rI, m_AR_rI, m_n_rI, m_I_rL, m_L_rL, m_R_rL, m_AI_rL, m_AL_rL, m_AD_rL, m_AR_rL, m_n_rL, m_I_rD, m_L_rD, m_R_rD, m_AI_rD, m_AL_rD, m_AD_rD, m_AR_rD, m_n_rD, m_I_rR, m_L_rR, m_R_rR, m_AI_rR, m_AL_rR, m_AD_rR, m_AR_rR, m_n_rR, ly_py hC hk2, b0, b1, b2, b3, b4, cl0, c1, c2, c3, c4, jrL_2, ly_78 hC, a77, ly_aw hC hi6, ka, ← hu5, eT, jbt, b5, b6, c5, c6, true_and, and_true, and_false, false_and, and_self, if_true, if_false, ite_self, Nat.reduceEqDiff, reduceIte, obt, jlt, jbt, jbd_ite, bind_ite]
    simp only [ly_76 hC, k_2071, hcents, true_and, and_true, and_false, false_and, and_self, if_true, if_false, ite_self, Nat.reduceEqDiff, reduceIte, obt, jlt, jbt, jbd_ite, bind_ite]
    rcases hbx with ⟨z1, z2⟩ | ⟨z1, z2⟩
    · rw [if_pos z1]
      unfold f_X11_pay_129
      rw [if_pos b7, jlt, z2, c7, jrL_2, m_AL_rL, if_pos rfl]
      rfl
    · rw [if_neg z1]
      unfold f_X11_pay_129
      rw [if_pos b7, jlt, z2, c7, jrL_2, m_AL_rL, if_pos rfl]
      rfl
  refine ⟨_, _, eC, eR.trans g2, ?_, fC1.rL (by unfold pPy; omega), (fR.rI (by unfold qPy; omega)).rL (by unfold qPy; omega), by simp only [m_I_sI, m_L_sI, m_R_sI, m_AI_sI, m_AL_sI, m_AD_sI, m_AR_sI, m_n_sI, m_I_sL, m_L_sL, m_R_sL, m_AI_sL, m_AL_sL, m_AD_sL, m_AR_sL, m_n_sL, m_I_sR, m_L_sR, m_R_sR, m_AI_sR, m_AL_sR, m_AD_sR, m_AR_sR, m_n_sR, m_I_rI, m_L_rI, m_R_rI, m_AI_rI, m_AL_rI, m_AD_rI, m_AR_rI, m_n_rI, m_I_rL, m_L_rL, m_R_rL, m_AI_rL, m_AL_rL, m_AD_rL, m_AR_rL, m_n_rL, m_I_rD, m_L_rD, m_R_rD, m_AI_rD, m_AL_rD, m_AD_rD, m_AR_rD, m_n_rD, m_I_rR, m_L_rR, m_R_rR, m_AI_rR, m_AL_rR, m_AD_rR, m_AR_rR, m_n_rR, true_and, and_true, and_false, false_and, and_self, if_true, if_false, ite_self, Nat.reduceEqDiff, reduceIte, obt, jlt, jbt, jbd_ite, bind_ite]⟩
  unfold rY
  simp only [m_I_sI, m_L_sI, m_R_sI, m_AI_sI, m_AL_sI, m_AD_sI, m_AR_sI, m_n_sI, m_I_sL, m_L_sL, m_R_sL, m_AI_sL, m_AL_sL, m_AD_sL, m_AR_sL, m_n_sL, m_I_sR, m_L_sR, m_R_sR, m_AI_sR, m_AL_sR, m_AD_sR, m_AR_sR, m_n_sR, m_I_rI, m_L_rI, m_R_rI, m_AI_rI, m_AL_rI, m_AD_rI, m_AR_rI, m_n_rI, m_I_rL, m_L_rL, m_R_rL, m_AI_rL, m_AL_rL, m_AD_rL, m_AR_rL, m_n_rL, m_I_rD, m_L_rD, m_R_rD, m_AI_rD, m_AL_rD, m_AD_rD, m_AR_rD, m_n_rD, m_I_rR, m_L_rR, m_R_rR, m_AI_rR, m_AL_rR, m_AD_rR, m_AR_rR, m_n_rR, f45, f46, f47, f48, f49, f175, true_and, and_true, and_false, false_and, and_self, if_true, if_false, ite_self, Nat.reduceEqDiff, reduceIte, obt, jlt, jbt, jbd_ite, bind_ite]
  have hkt : (nI k).toInt = k := nI_toInt (by omega)
  have hk1 : (nI (k + 1)).toInt = k + 1 := nI_toInt (by omega)
  refine ⟨by omega, by omega, fun q hq => ?_, fun q j hq hj => ?_⟩
  · by_cases e : q = k
    · subst e
      simp only [if_true, upd_if, updL_if, true_and, and_true, and_false, false_and, and_self, if_true, if_false, ite_self, Nat.reduceEqDiff, reduceIte, obt, jlt, jbt, jbd_ite, bind_ite]
      have g0 := t2 0 (by omega)
      have g1' := t2 1 (by omega)
      have g2' := t2 2 (by omega)
      have g3 := t2 3 (by omega)
      have g4 := t2 4 (by omega)
      rw [hu5, updL_if, if_neg (by decide), updL_if, if_neg (by decide), updL_if, if_neg (by decide), updL_if, if_neg (by decide), updL_if, if_pos rfl] at g0
      rw [hu5, updL_if, if_neg (by decide), updL_if, if_neg (by decide), updL_if, if_neg (by decide), updL_if, if_pos rfl] at g1'
      rw [hu5, updL_if, if_neg (by decide), updL_if, if_neg (by decide), updL_if, if_pos rfl] at g2'
      rw [hu5, updL_if, if_neg (by decide), updL_if, if_pos rfl] at g3
      rw [hu5, updL_if, if_pos rfl] at g4
      refine ⟨?_, ?_, fun j hj => ?_, ?_, .inl trivial, ?_, ?_⟩
      · first | exact g0 | simpa using g0
      · rw [← h84]; first | exact g1' | simpa using g1'
      · obtain rfl | rfl | rfl | rfl : j = 0 ∨ j = 1 ∨ j = 2 ∨ j = 3 := by omega
        · rw [if_neg (by omega), if_neg (by omega), if_neg (by omega), if_neg (by omega), if_neg (by omega), if_neg (by omega), if_pos (by omega)]; exact g2'
        · rw [if_neg (by omega), if_neg (by omega), if_neg (by omega), if_neg (by omega), if_neg (by omega), if_pos (by omega)]; exact g3
        · rw [if_neg (by omega), if_neg (by omega), if_neg (by omega), if_neg (by omega), if_pos (by omega)]; exact g4
        · rw [if_neg (by omega), if_neg (by omega), if_pos (by omega), if_pos (by omega)]
      · decide
      · rw [hb]
      · exact h176
    · have hne : ¬ 2197 + q = 2197 + k := by omega
      have hq' : (q : Int) < (jI C 81 0).toInt := by rw [hk]; omega
      obtain ⟨v1, v2, v3, v4, v5, v6, v7⟩ := y4 q hq'
      simp only [if_neg hne, upd_if, updL_if, if_neg e]
      refine ⟨v1, v2, fun j hj => ?_, v4, v5, v6, v7⟩
      rw [if_neg (by omega), if_neg (by omega), if_neg (by omega), if_neg (by omega)]
      exact v3 j hj
  · by_cases e : q = k
    · subst e
      simp only [if_true, updL_if]
      rw [if_neg (by omega), if_neg (by omega), if_neg (by omega)]
      exact t1 j hj
    · have hne : ¬ 2197 + q = 2197 + k := by omega
      rw [if_neg hne, t3 _ (by omega), f50]
      exact y5 q j hq hj

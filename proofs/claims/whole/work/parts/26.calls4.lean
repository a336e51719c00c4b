/-! PURE: the simple calls, fourth part: deduct, feed -/
theorem ly_a4 {S : jM} (h : Lay S) {a : Nat} (ha : jK a = 0) : jR S 4 a = some (a + 1) := (h.2.2.2.2.1 a ha).1
theorem ly_a5 {S : jM} (h : Lay S) {a : Nat} (ha : jK a = 0) : jR S 5 a = some (a + 2) := (h.2.2.2.2.1 a ha).2
theorem kA (i : Nat) (hi : i < 6) : (jK (2179 + 3 * i) = 13 ∧ jLen (2179 + 3 * i) = 6) ∧ jK (2180 + 3 * i) = 13 ∧ jLen (2180 + 3 * i) = 6 := by
  have h := kd_award (kf_award hi)
  rw [show 2178 + 3 * i + 1 = 2179 + 3 * i from by omega, show 2178 + 3 * i + 2 = 2180 + 3 * i from by omega] at h
  exact h
theorem q_deduct {C R : jM} (hC : Lay C) (hR : Lay R) (h : Rel C R) (v x y : Int32) : Sim (f_X11_deduct 0 v x y) (f_X12_deduct 2398 v x y) C R := by
  obtain ⟨n1, n2, n3, n4, n5⟩ := h.A
  unfold Sim f_X11_deduct f_X12_deduct f_X0_addDeduction
  have hs1 := i_sub1 (a := jI C 79 0) (by omega)
  by_cases c : 0 ≤ v.toInt ∧ v.toInt < (jI C 79 0).toInt
  · obtain ⟨i, hi⟩ : ∃ i : Nat, (i : Int) = v.toInt := ⟨v.toInt.toNat, by omega⟩
    have hcl : v.toNatClampNeg = i := by rw [i_cl]; omega
    obtain ⟨f1, f2, f3, f4, f5, f6, f7, f8, f9⟩ := n4 i (by omega)
    have hA1 : jA 2177 16 v = true := jA_iff.mpr ⟨k_2177, c.1, by rw [ln_2177]; omega⟩
    have hA2 : jA 2443 13 v = true := jA_iff.mpr ⟨k_2443, c.1, by rw [ln_2443]; omega⟩
    have hk := kf_award (show i < 6 by omega)
    by_cases c2 : (1 ≤ x.toInt ∧ x.toInt ≤ 1000000) ∧ 0 ≤ y.toInt ∧ y.toInt ≤ 9
    · by_cases c4 : (jI C 3 (2178 + 3 * i)).toInt < 6
      · obtain ⟨⟨ka1, ka2⟩, ka3, ka4⟩ := kd_award hk
        have h6 : ((6 : Int32) * v).toInt = 6 * v.toInt := i_mul (by rw [show (6 : Int32).toInt = 6 from rfl]; omega) (by rw [show (6 : Int32).toInt = 6 from rfl]; omega)
        have h66 : ((6 : Int32) * v + jI C 3 (2178 + 3 * i)).toInt = 6 * v.toInt + (jI C 3 (2178 + 3 * i)).toInt := by rw [i_add, h6] <;> rw [h6] <;> omega
        have hcx : ((6 : Int32) * v + jI C 3 (2178 + 3 * i)).toNatClampNeg = 6 * i + (jI C 3 (2178 + 3 * i)).toNatClampNeg := by rw [i_cl, i_cl, h66]; omega
        have hA3 : jA (2178 + 3 * i + 1) 13 (jI C 3 (2178 + 3 * i)) = true := jA_iff.mpr ⟨ka1, by omega, by rw [ka2]; omega⟩
        have hA4 : jA (2178 + 3 * i + 2) 13 (jI C 3 (2178 + 3 * i)) = true := jA_iff.mpr ⟨ka3, by omega, by rw [ka4]; omega⟩
        have hA5 : jA 2441 13 ((6 : Int32) * v + jI C 3 (2178 + 3 * i)) = true := jA_iff.mpr ⟨k_2441, by omega, by rw [ln_2441]; omega⟩
        have hA6 : jA 2442 13 ((6 : Int32) * v + jI C 3 (2178 + 3 * i)) = true := jA_iff.mpr ⟨k_2442, by omega, by rw [ln_2442]; omega⟩
        have hne : ¬ jI C 3 (2178 + 3 * i) = 6 := by rw [i_eq, show (6 : Int32).toInt = 6 from rfl]; omega
        simp only [ly_78 hC, ly_161 hR, ly_162 hR, ly_163 hR, k_0, k_2398, hcl, hcx, ly_aw hC (show i < 6 by omega), hk, ly_a4 hC hk, ly_a5 hC hk, p_isAward, t_if, ← n1, ← f4, hs1, hA1, hA2, hA3, hA4, hA5, hA6, hne, in0, i_le, i_lt, i2l_toInt, Int32.reduceToInt, Int64.reduceToInt, t_0, t_l0, t_m40, t_lm40, m_I_sI, m_L_sI, m_R_sI, m_AI_sI, m_AL_sI, m_AD_sI, m_AR_sI, m_n_sI, m_I_sL, m_L_sL, m_R_sL, m_AI_sL, m_AL_sL, m_AD_sL, m_AR_sL, m_n_sL, m_I_sR, m_L_sR, m_R_sR, m_AI_sR, m_AL_sR, m_AD_sR, m_AR_sR, m_n_sR, m_I_rI, m_L_rI, m_R_rI, m_AI_rI, m_AL_rI, m_AD_rI, m_AR_rI, m_n_rI, m_I_rL, m_L_rL, m_R_rL, m_AI_rL, m_AL_rL, m_AD_rL, m_AR_rL, m_n_rL, m_I_rD, m_L_rD, m_R_rD, m_AI_rD, m_AL_rD, m_AD_rD, m_AR_rD, m_n_rD, m_I_rR, m_L_rR, m_R_rR, m_AI_rR, m_AL_rR, m_AD_rR, m_AR_rR, m_n_rR, true_and, and_true, and_false, false_and, and_self, if_true, if_false, ite_self, Nat.reduceEqDiff, reduceIte, Option.bind_some, jlet, jbd_some, jbd_ite, bind_ite]
        rw [if_neg (by omega), if_neg (by omega), if_neg (by omega), if_neg (by omega), if_pos (by omega), if_pos (by omega), if_neg (by omega), if_neg (by omega), if_neg (by omega)]
        have hnn : (jI C 3 (2178 + 3 * i) + 1).toInt = (jI C 3 (2178 + 3 * i)).toInt + 1 := i_add1 (by omega)
        have hF : Fr (fun t f a => (t = 0 ∧ f = 3 ∧ a = 2178 + 3 * i) ∨ (t = 3 ∧ (a = 2178 + 3 * i + 1 ∨ a = 2178 + 3 * i + 2))) C (jsI (jrI (jrI C (2178 + 3 * i + 1) (upd (jAI C (2178 + 3 * i + 1)) (jI C 3 (2178 + 3 * i)).toNatClampNeg x)) (2178 + 3 * i + 2) (upd (jAI C (2178 + 3 * i + 2)) (jI C 3 (2178 + 3 * i)).toNatClampNeg y)) 3 (2178 + 3 * i) (jI C 3 (2178 + 3 * i) + 1)) := (((Fr.refl).rI (by omega)).rI (by omega)).sI (by omega)
        have hG : Fr (fun t f a => t = 3 ∧ (a = 2441 ∨ a = 2442 ∨ a = 2443)) R (jrI (jrI (jrI R 2441 (upd (jAI R 2441) (6 * i + (jI C 3 (2178 + 3 * i)).toNatClampNeg) x)) 2442 (upd (jAI R 2442) (6 * i + (jI C 3 (2178 + 3 * i)).toNatClampNeg) y)) 2443 (upd (jAI R 2443) i (jI C 3 (2178 + 3 * i) + 1))) := (((Fr.refl).rI (by omega)).rI (by omega)).rI (by omega)
        have hs : ∀ s, s < 225 → sS R (jrI (jrI (jrI R 2441 (upd (jAI R 2441) (6 * i + (jI C 3 (2178 + 3 * i)).toNatClampNeg) x)) 2442 (upd (jAI R 2442) (6 * i + (jI C 3 (2178 + 3 * i)).toNatClampNeg) y)) 2443 (upd (jAI R 2443) i (jI C 3 (2178 + 3 * i) + 1))) s := fun s _ => hG.sS (fun a _ _ => by omega) s
        have hx : ∀ t, t < 33 → sX R (jrI (jrI (jrI R 2441 (upd (jAI R 2441) (6 * i + (jI C 3 (2178 + 3 * i)).toNatClampNeg) x)) 2442 (upd (jAI R 2442) (6 * i + (jI C 3 (2178 + 3 * i)).toNatClampNeg) y)) 2443 (upd (jAI R 2443) i (jI C 3 (2178 + 3 * i) + 1))) t := fun t _ => hG.sX (fun a _ _ => by omega) t
        have hP : rA (jsI (jrI (jrI C (2178 + 3 * i + 1) (upd (jAI C (2178 + 3 * i + 1)) (jI C 3 (2178 + 3 * i)).toNatClampNeg x)) (2178 + 3 * i + 2) (upd (jAI C (2178 + 3 * i + 2)) (jI C 3 (2178 + 3 * i)).toNatClampNeg y)) 3 (2178 + 3 * i) (jI C 3 (2178 + 3 * i) + 1)) (jrI (jrI (jrI R 2441 (upd (jAI R 2441) (6 * i + (jI C 3 (2178 + 3 * i)).toNatClampNeg) x)) 2442 (upd (jAI R 2442) (6 * i + (jI C 3 (2178 + 3 * i)).toNatClampNeg) y)) 2443 (upd (jAI R 2443) i (jI C 3 (2178 + 3 * i) + 1))) := by
          unfold rA
          simp only [m_I_sI, m_L_sI, m_R_sI, m_AI_sI, m_AL_sI, m_AD_sI, m_AR_sI, m_n_sI, m_I_sL, m_L_sL, m_R_sL, m_AI_sL, m_AL_sL, m_AD_sL, m_AR_sL, m_n_sL, m_I_sR, m_L_sR, m_R_sR, m_AI_sR, m_AL_sR, m_AD_sR, m_AR_sR, m_n_sR, m_I_rI, m_L_rI, m_R_rI, m_AI_rI, m_AL_rI, m_AD_rI, m_AR_rI, m_n_rI, m_I_rL, m_L_rL, m_R_rL, m_AI_rL, m_AL_rL, m_AD_rL, m_AR_rL, m_n_rL, m_I_rD, m_L_rD, m_R_rD, m_AI_rD, m_AL_rD, m_AD_rD, m_AR_rD, m_n_rD, m_I_rR, m_L_rR, m_R_rR, m_AI_rR, m_AL_rR, m_AD_rR, m_AR_rR, m_n_rR, Nat.reduceEqDiff, false_and, true_and, if_true, reduceIte, false_and, if_false, Nat.reduceSub, and_self]
          refine ⟨n1, n2, n3, fun j hj => ?_, fun j hj hj2 => ?_⟩
          · obtain ⟨g1, g2, g3, g4, g5, g6, g7, g8, g9⟩ := n4 j hj
            by_cases e : j = i
            · subst e
              simp only [if_true, upd_if, hnn]
              refine ⟨g1, g2, g3, trivial, g5, g6, g7, by omega, fun q hq => ?_⟩
              have z1 : ¬ (2179 + 3 * j = 2178 + 3 * j + 2) := by omega
              have z2 : 2179 + 3 * j = 2178 + 3 * j + 1 := by omega
              have z3 : 2180 + 3 * j = 2178 + 3 * j + 2 := by omega
              simp only [if_neg z1, if_pos z2, if_pos z3, upd_if]
              by_cases e2 : q = (jI C 3 (2178 + 3 * j)).toNatClampNeg
              · have e3 : 6 * j + q = 6 * j + (jI C 3 (2178 + 3 * j)).toNatClampNeg := by omega
                simp only [if_pos e2, if_pos e3]
                exact ⟨trivial, trivial⟩
              · have e3 : ¬ (6 * j + q = 6 * j + (jI C 3 (2178 + 3 * j)).toNatClampNeg) := by omega
                simp only [if_neg e2, if_neg e3]
                have := g9 q (by rw [i_cl] at e2; omega)
                rw [show 2178 + 3 * j + 1 = 2179 + 3 * j from by omega, show 2178 + 3 * j + 2 = 2180 + 3 * j from by omega]
                exact this
            · rw [if_neg (by omega)]
              simp only [upd_if, if_neg e]
              refine ⟨g1, g2, g3, g4, g5, g6, g7, g8, fun q hq => ?_⟩
              have hci : (jI C 3 (2178 + 3 * i)).toNatClampNeg < 6 := by rw [i_cl]; omega
              have z1 : ¬ (2179 + 3 * j = 2178 + 3 * i + 2) := by omega
              have z2 : ¬ (2179 + 3 * j = 2178 + 3 * i + 1) := by omega
              have z3 : ¬ (2180 + 3 * j = 2178 + 3 * i + 2) := by omega
              have z4 : ¬ (2180 + 3 * j = 2178 + 3 * i + 1) := by omega
              have z5 : ¬ (6 * j + q = 6 * i + (jI C 3 (2178 + 3 * i)).toNatClampNeg) := by omega
              simp only [if_neg z1, if_neg z2, if_neg z3, if_neg z4, if_neg z5]
              exact g9 q hq
          · rw [if_neg (by omega)]
            exact n5 j hj hj2
        refine ⟨_, _, _, rfl, by rw [if_neg (by omega), upd_if, if_pos rfl], ?_, hF.mono (fun t f a z => by have := k16 a; unfold pC; omega), hG.mono (fun t f a z => by have := k16r a; unfold pR; omega)⟩
        exact ⟨rT_f hF hG (fun t f a => by unfold cT; omega) (fun t f a => by unfold mT; omega) h.T,
            rN_f hF hG (fun t f a => by unfold cN; omega) (fun t f a => by unfold mN; omega) h.N,
            rP_f hF hG (fun t f a => by unfold cP; omega) (fun t f a => by unfold mP; omega) h.P,
            rD_f hF hG (fun t f a => by unfold cD; omega) (fun _ _ _ z => z.elim) (hs 0 (by omega)) h.D,
            rF_f hF hG (fun t f a => by unfold cF; omega) (fun t f a => by unfold mF; omega) (fun s _ _ => hs s (by omega)) h.F,
            rU_f hF hG (fun t f a => by unfold cU; omega) (fun t f a => by unfold mU; omega) h.U,
            hP,
            rY_f hF hG (fun t f a => by unfold cY; omega) (fun t f a => by unfold mY; omega) h.Y,
            rR_f hF hG (fun t f a => by unfold cR; omega) (fun t f a => by unfold mR; omega) h.R,
            rS_f hF hG (fun t f a => by unfold cS; omega) (fun t f a => by unfold mS; omega) (fun s _ _ => hs s (by omega)) h.S,
            rE_f hF hG (fun t f a => by unfold cE; omega) (fun t f a => by unfold mE; omega) (fun t _ => hx t (by omega)) h.E⟩
      · have he : jI C 3 (2178 + 3 * i) = 6 := by rw [i_eq, show (6 : Int32).toInt = 6 from rfl]; omega
        simp only [ly_78 hC, ly_163 hR, k_0, k_2398, hcl, ly_aw hC (show i < 6 by omega), hk, p_isAward, t_if, ← n1, ← f4, hs1, hA1, hA2, he, in0, i_le, i_lt, i2l_toInt, Int32.reduceToInt, Int64.reduceToInt, t_0, t_l0, t_m40, t_lm40, m_I_sI, m_L_sI, m_R_sI, m_AI_sI, m_AL_sI, m_AD_sI, m_AR_sI, m_n_sI, m_I_sL, m_L_sL, m_R_sL, m_AI_sL, m_AL_sL, m_AD_sL, m_AR_sL, m_n_sL, m_I_sR, m_L_sR, m_R_sR, m_AI_sR, m_AL_sR, m_AD_sR, m_AR_sR, m_n_sR, m_I_rI, m_L_rI, m_R_rI, m_AI_rI, m_AL_rI, m_AD_rI, m_AR_rI, m_n_rI, m_I_rL, m_L_rL, m_R_rL, m_AI_rL, m_AL_rL, m_AD_rL, m_AR_rL, m_n_rL, m_I_rD, m_L_rD, m_R_rD, m_AI_rD, m_AL_rD, m_AD_rD, m_AR_rD, m_n_rD, m_I_rR, m_L_rR, m_R_rR, m_AI_rR, m_AL_rR, m_AD_rR, m_AR_rR, m_n_rR, true_and, and_true, and_false, false_and, and_self, if_true, if_false, ite_self, Nat.reduceEqDiff, reduceIte, Option.bind_some, jlet, jbd_some, jbd_ite, bind_ite]
        rw [if_neg (by omega), if_neg (by omega), if_neg (by omega), if_neg (by omega), if_pos (by omega), if_neg (by omega), if_neg (by omega), if_neg (by omega), if_neg (by omega)]
        exact ⟨_, _, _, rfl, rfl, h.fr_self⟩
    · simp only [ly_78 hC, k_0, k_2398, p_isAward, t_if, ← n1, hs1, in0, i_le, i_lt, i2l_toInt, Int32.reduceToInt, Int64.reduceToInt, t_0, t_l0, t_m40, t_lm40, m_I_sI, m_L_sI, m_R_sI, m_AI_sI, m_AL_sI, m_AD_sI, m_AR_sI, m_n_sI, m_I_sL, m_L_sL, m_R_sL, m_AI_sL, m_AL_sL, m_AD_sL, m_AR_sL, m_n_sL, m_I_sR, m_L_sR, m_R_sR, m_AI_sR, m_AL_sR, m_AD_sR, m_AR_sR, m_n_sR, m_I_rI, m_L_rI, m_R_rI, m_AI_rI, m_AL_rI, m_AD_rI, m_AR_rI, m_n_rI, m_I_rL, m_L_rL, m_R_rL, m_AI_rL, m_AL_rL, m_AD_rL, m_AR_rL, m_n_rL, m_I_rD, m_L_rD, m_R_rD, m_AI_rD, m_AL_rD, m_AD_rD, m_AR_rD, m_n_rD, m_I_rR, m_L_rR, m_R_rR, m_AI_rR, m_AL_rR, m_AD_rR, m_AR_rR, m_n_rR, true_and, and_true, and_false, false_and, and_self, if_true, if_false, ite_self, Nat.reduceEqDiff, reduceIte, Option.bind_some, jlet, jbd_some, jbd_ite, bind_ite]
      by_cases c3 : x.toInt < 1
      · rw [if_neg (by omega), if_pos c3, if_neg (by omega), if_pos (by omega)]
        exact ⟨_, _, _, rfl, rfl, h.fr_self⟩
      by_cases c4 : 1000000 < x.toInt
      · rw [if_neg (by omega), if_neg c3, if_pos c4, if_neg (by omega), if_pos (by omega)]
        exact ⟨_, _, _, rfl, rfl, h.fr_self⟩
      by_cases c5 : y.toInt < 0
      · rw [if_neg (by omega), if_neg c3, if_neg c4, if_pos c5, if_neg (by omega), if_neg (by omega), if_pos (by omega)]
        exact ⟨_, _, _, rfl, rfl, h.fr_self⟩
      · rw [if_neg (by omega), if_neg c3, if_neg c4, if_neg c5, if_neg (by omega), if_neg (by omega), if_neg (by omega), if_pos (by omega)]
        exact ⟨_, _, _, rfl, rfl, h.fr_self⟩
  · simp only [ly_78 hC, k_0, k_2398, p_isAward, t_if, ← n1, hs1, in0, i_le, i_lt, i2l_toInt, Int32.reduceToInt, Int64.reduceToInt, t_0, t_l0, t_m40, t_lm40, m_I_sI, m_L_sI, m_R_sI, m_AI_sI, m_AL_sI, m_AD_sI, m_AR_sI, m_n_sI, m_I_sL, m_L_sL, m_R_sL, m_AI_sL, m_AL_sL, m_AD_sL, m_AR_sL, m_n_sL, m_I_sR, m_L_sR, m_R_sR, m_AI_sR, m_AL_sR, m_AD_sR, m_AR_sR, m_n_sR, m_I_rI, m_L_rI, m_R_rI, m_AI_rI, m_AL_rI, m_AD_rI, m_AR_rI, m_n_rI, m_I_rL, m_L_rL, m_R_rL, m_AI_rL, m_AL_rL, m_AD_rL, m_AR_rL, m_n_rL, m_I_rD, m_L_rD, m_R_rD, m_AI_rD, m_AL_rD, m_AD_rD, m_AR_rD, m_n_rD, m_I_rR, m_L_rR, m_R_rR, m_AI_rR, m_AL_rR, m_AD_rR, m_AR_rR, m_n_rR, true_and, and_true, and_false, false_and, and_self, if_true, if_false, ite_self, Nat.reduceEqDiff, reduceIte, Option.bind_some, jlet, jbd_some, jbd_ite, bind_ite]
    rw [if_pos (by omega), if_pos (by omega)]
    exact ⟨_, _, _, rfl, rfl, h.fr_self⟩

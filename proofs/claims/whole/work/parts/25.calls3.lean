/-! PURE: the simple calls, third part -/
theorem ly_bk {S : jM} (h : Lay S) {i : Nat} (hi : i < 200) : jAR S 4 i = some (5 + 3 * i) := h.2.2.2.2.2.2.1 i hi
theorem ly_pl {S : jM} (h : Lay S) {i : Nat} (hi : i < 600) : jAR S 817 i = some (818 + 2 * i) := h.2.2.2.2.2.2.2.1 i hi
theorem ly_aw {S : jM} (h : Lay S) {i : Nat} (hi : i < 6) : jAR S 2177 i = some (2178 + 3 * i) := h.2.2.2.2.2.2.2.2.1 i hi
theorem ly_py {S : jM} (h : Lay S) {i : Nat} (hi : i < 200) : jAR S 2196 i = some (2197 + i) := h.2.2.2.2.2.2.2.2.2 i hi
theorem ly_v {S : jM} (h : Lay S) {a : Nat} (ha : jK a = 7) : jR S 54 a = some (a + 1) := h.2.1 a ha
theorem ly_fv {S : jM} (h : Lay S) {a : Nat} (ha : jK a = 2) : jR S 23 a = some (a + 1) := h.2.2.1 a ha
theorem i_sub1 {a : Int32} (h : -2147483648 < a.toInt) : (a - 1).toInt = a.toInt - 1 := i_sub (by rw [show (1 : Int32).toInt = 1 from rfl]; omega) (by rw [show (1 : Int32).toInt = 1 from rfl]; have := i_rng a; omega)
theorem i_add1 {a : Int32} (h : a.toInt < 2147483647) : (a + 1).toInt = a.toInt + 1 := i_add (by rw [show (1 : Int32).toInt = 1 from rfl]; have := i_rng a; omega) (by rw [show (1 : Int32).toInt = 1 from rfl]; omega)
theorem q_annul {C R : jM} (hC : Lay C) (hR : Lay R) (h : Rel C R) (v : Int32) : Sim (f_X11_annul 0 v) (f_X12_annul 2398 v) C R := by
  obtain ⟨n1, n2, n3, n4⟩ := h.F
  obtain ⟨t1, t2, t3⟩ := h.N
  unfold Sim f_X11_annul f_X12_annul
  have hs1 := i_sub1 (a := jI C 34 1) (by omega)
  by_cases c : 0 ≤ v.toInt ∧ v.toInt < (jI C 34 1).toInt
  · obtain ⟨i, hi⟩ : ∃ i : Nat, (i : Int) = v.toInt := ⟨v.toInt.toNat, by omega⟩
    have hcl : v.toNatClampNeg = i := by rw [i_cl]; omega
    obtain ⟨f1, f2, f3, f4, f5, f6, f7, f8⟩ := n4 i (by omega)
    have hA1 : jA 4 17 v = true := jA_iff.mpr ⟨k_4, c.1, by rw [ln_4]; omega⟩
    have hA2 : jA 2434 13 v = true := jA_iff.mpr ⟨k_2434, c.1, by rw [ln_2434]; omega⟩
    simp only [ly_69 hC, ly_35 hC, ly_145 hR, k_0, k_1, k_2398, hcl, ly_bk hC (show i < 200 by omega), kf_fact (show i < 200 by omega), hA1, hA2, ← n1, hs1, in0, i_le, i_lt, i2l_toInt, Int32.reduceToInt, Int64.reduceToInt, t_0, t_l0, t_m40, t_lm40, m_I_sI, m_L_sI, m_R_sI, m_AI_sI, m_AL_sI, m_AD_sI, m_AR_sI, m_n_sI, m_I_sL, m_L_sL, m_R_sL, m_AI_sL, m_AL_sL, m_AD_sL, m_AR_sL, m_n_sL, m_I_sR, m_L_sR, m_R_sR, m_AI_sR, m_AL_sR, m_AD_sR, m_AR_sR, m_n_sR, m_I_rI, m_L_rI, m_R_rI, m_AI_rI, m_AL_rI, m_AD_rI, m_AR_rI, m_n_rI, m_I_rL, m_L_rL, m_R_rL, m_AI_rL, m_AL_rL, m_AD_rL, m_AR_rL, m_n_rL, m_I_rD, m_L_rD, m_R_rD, m_AI_rD, m_AL_rD, m_AD_rD, m_AR_rD, m_n_rD, m_I_rR, m_L_rR, m_R_rR, m_AI_rR, m_AL_rR, m_AD_rR, m_AR_rR, m_n_rR, true_and, and_true, and_false, false_and, and_self, if_true, if_false, ite_self, Nat.reduceEqDiff, reduceIte, Option.bind_some, jlet, jbd_some, jbd_ite, bind_ite]
    have hm : jI C 22 (5 + 3 * i) = -1 ↔ (jI C 22 (5 + 3 * i)).toInt = -1 := by rw [i_eq, t_m1]
    rw [← f6]
    simp only [hm]
    by_cases c2 : (jI C 22 (5 + 3 * i)).toInt = -1
    · rw [if_neg (by omega), if_pos (by omega), if_pos c2, if_neg (by omega), if_pos (by omega)]
      have hF : Fr (fun t f a => t = 0 ∧ f = 22 ∧ a = 5 + 3 * i) C (jsI C 22 (5 + 3 * i) (jI C 82 0)) := (Fr.refl).sI (by omega)
      have hG : Fr (fun t f a => t = 3 ∧ a = 2434) R (jrI R 2434 (upd (jAI R 2434) i (jI R 139 2398))) := (Fr.refl).rI (by omega)
      have hs : ∀ s, s < 225 → sS R (jrI R 2434 (upd (jAI R 2434) i (jI R 139 2398))) s := fun s _ => hG.sS (fun a _ _ => by omega) s
      have hx : ∀ t, t < 33 → sX R (jrI R 2434 (upd (jAI R 2434) i (jI R 139 2398))) t := fun t _ => hG.sX (fun a _ _ => by omega) t
      have hP : rF (jsI C 22 (5 + 3 * i) (jI C 82 0)) (jrI R 2434 (upd (jAI R 2434) i (jI R 139 2398))) := by
        unfold rF
        simp only [m_I_sI, m_L_sI, m_R_sI, m_AI_sI, m_AL_sI, m_AD_sI, m_AR_sI, m_n_sI, m_I_sL, m_L_sL, m_R_sL, m_AI_sL, m_AL_sL, m_AD_sL, m_AR_sL, m_n_sL, m_I_sR, m_L_sR, m_R_sR, m_AI_sR, m_AL_sR, m_AD_sR, m_AR_sR, m_n_sR, m_I_rI, m_L_rI, m_R_rI, m_AI_rI, m_AL_rI, m_AD_rI, m_AR_rI, m_n_rI, m_I_rL, m_L_rL, m_R_rL, m_AI_rL, m_AL_rL, m_AD_rL, m_AR_rL, m_n_rL, m_I_rD, m_L_rD, m_R_rD, m_AI_rD, m_AL_rD, m_AD_rD, m_AR_rD, m_n_rD, m_I_rR, m_L_rR, m_R_rR, m_AI_rR, m_AL_rR, m_AD_rR, m_AR_rR, m_n_rR, Nat.reduceEqDiff, false_and, true_and, if_true, reduceIte, false_and, if_false]
        refine ⟨n1, n2, n3, fun j hj => ?_⟩
        obtain ⟨g1, g2, g3, g4, g5, g6, g7, g8⟩ := n4 j hj
        refine ⟨g1, g2, g3, g4, g5, ?_, ?_, g8⟩
        · by_cases e : j = i
          · subst e; simp only [if_true, upd_if]; exact t1
          · rw [if_neg (by omega), upd_if, if_neg e]; exact g6
        · by_cases e : j = i
          · subst e; simp only [if_true]; exact .inr t2
          · rw [if_neg (by omega)]; exact g7
      refine ⟨_, _, _, rfl, rfl, ?_, hF.mono (fun t f a z => by have := k16 a; unfold pC; omega), hG.mono (fun t f a z => by have := k16r a; unfold pR; omega)⟩
      exact ⟨rT_f hF hG (fun t f a => by unfold cT; omega) (fun t f a => by unfold mT; omega) h.T,
          rN_f hF hG (fun t f a => by unfold cN; omega) (fun t f a => by unfold mN; omega) h.N,
          rP_f hF hG (fun t f a => by unfold cP; omega) (fun t f a => by unfold mP; omega) h.P,
          rD_f hF hG (fun t f a => by unfold cD; omega) (fun _ _ _ z => z.elim) (hs 0 (by omega)) h.D,
          hP,
          rU_f hF hG (fun t f a => by unfold cU; omega) (fun t f a => by unfold mU; omega) h.U,
          rA_f hF hG (fun t f a => by unfold cA; omega) (fun t f a => by unfold mA; omega) h.A,
          rY_f hF hG (fun t f a => by unfold cY; omega) (fun t f a => by unfold mY; omega) h.Y,
          rR_f hF hG (fun t f a => by unfold cR; omega) (fun t f a => by unfold mR; omega) h.R,
          rS_f hF hG (fun t f a => by unfold cS; omega) (fun t f a => by unfold mS; omega) (fun s _ _ => hs s (by omega)) h.S,
          rE_f hF hG (fun t f a => by unfold cE; omega) (fun t f a => by unfold mE; omega) (fun t _ => hx t (by omega)) h.E⟩
    · have := f7.resolve_left (fun e => c2 (hm.mp e))
      rw [if_neg (by omega), if_pos (by omega), if_neg c2, if_neg (by omega), if_neg (by omega)]
      exact ⟨_, _, _, rfl, rfl, h.fr_self⟩
  · simp only [ly_69 hC, k_0, k_1, k_2398, ← n1, hs1, in0, i_le, i_lt, i2l_toInt, Int32.reduceToInt, Int64.reduceToInt, t_0, t_l0, t_m40, t_lm40, m_I_sI, m_L_sI, m_R_sI, m_AI_sI, m_AL_sI, m_AD_sI, m_AR_sI, m_n_sI, m_I_sL, m_L_sL, m_R_sL, m_AI_sL, m_AL_sL, m_AD_sL, m_AR_sL, m_n_sL, m_I_sR, m_L_sR, m_R_sR, m_AI_sR, m_AL_sR, m_AD_sR, m_AR_sR, m_n_sR, m_I_rI, m_L_rI, m_R_rI, m_AI_rI, m_AL_rI, m_AD_rI, m_AR_rI, m_n_rI, m_I_rL, m_L_rL, m_R_rL, m_AI_rL, m_AL_rL, m_AD_rL, m_AR_rL, m_n_rL, m_I_rD, m_L_rD, m_R_rD, m_AI_rD, m_AL_rD, m_AD_rD, m_AR_rD, m_n_rD, m_I_rR, m_L_rR, m_R_rR, m_AI_rR, m_AL_rR, m_AD_rR, m_AR_rR, m_n_rR, true_and, and_true, and_false, false_and, and_self, if_true, if_false, ite_self, Nat.reduceEqDiff, reduceIte, Option.bind_some, jlet, jbd_some, jbd_ite, bind_ite]
    by_cases c3 : v.toInt < 0
    · rw [if_pos c3, if_pos (by omega)]
      exact ⟨_, _, _, rfl, rfl, h.fr_self⟩
    · rw [if_neg c3, if_neg (by omega), if_pos (by omega)]
      exact ⟨_, _, _, rfl, rfl, h.fr_self⟩
theorem q_taken {C R : jM} (hC : Lay C) (hR : Lay R) (h : Rel C R) (v w : Int32) : SimR (f_X11_taken 0 v w) (f_X12_taken 2398 v w) C R := by
  obtain ⟨n1, n2, n3, -, n4⟩ := h.Y
  unfold SimR f_X11_taken f_X12_taken
  have hs1 := i_sub1 (a := jI C 81 0) (by omega)
  by_cases c : 0 ≤ v.toInt ∧ v.toInt < (jI C 81 0).toInt
  · by_cases c2 : 0 ≤ w.toInt ∧ w.toInt < 6
    · obtain ⟨i, hi⟩ : ∃ i : Nat, (i : Int) = v.toInt := ⟨v.toInt.toNat, by omega⟩
      obtain ⟨j, hj⟩ : ∃ j : Nat, (j : Int) = w.toInt := ⟨w.toInt.toNat, by omega⟩
      have hcl : v.toNatClampNeg = i := by rw [i_cl]; omega
      have h8 : ((8 : Int32) + w).toInt = 8 + w.toInt := i_add (by rw [show (8 : Int32).toInt = 8 from rfl]; omega) (by rw [show (8 : Int32).toInt = 8 from rfl]; omega)
      have h6 : ((6 : Int32) * v).toInt = 6 * v.toInt := i_mul (by rw [show (6 : Int32).toInt = 6 from rfl]; omega) (by rw [show (6 : Int32).toInt = 6 from rfl]; omega)
      have h66 : ((6 : Int32) * v + w).toInt = 6 * v.toInt + w.toInt := by rw [i_add, h6] <;> rw [h6] <;> omega
      have hcw : ((8 : Int32) + w).toNatClampNeg = 8 + j := by rw [i_cl, h8]; omega
      have hcx : ((6 : Int32) * v + w).toNatClampNeg = 6 * i + j := by rw [i_cl, h66]; omega
      have hp := kf_pay (show i < 200 by omega)
      rw [Nat.one_mul] at hp
      have hA1 : jA 2196 20 v = true := jA_iff.mpr ⟨k_2196, c.1, by rw [ln_2196]; omega⟩
      have hA2 : jA (2197 + i) 14 ((8 : Int32) + w) = true := jA_iff.mpr ⟨hp.1, by omega, by rw [hp.2]; omega⟩
      have hA3 : jA 2450 13 ((6 : Int32) * v + w) = true := jA_iff.mpr ⟨k_2450, by omega, by rw [ln_2450]; omega⟩
      simp only [ly_80 hC, ly_174 hR, k_0, k_2398, hcl, hcw, hcx, ly_py hC (show i < 200 by omega), hA1, hA2, hA3, ← n1, hs1, in0, i_le, i_lt, i2l_toInt, Int32.reduceToInt, Int64.reduceToInt, t_0, t_l0, t_m40, t_lm40, m_I_sI, m_L_sI, m_R_sI, m_AI_sI, m_AL_sI, m_AD_sI, m_AR_sI, m_n_sI, m_I_sL, m_L_sL, m_R_sL, m_AI_sL, m_AL_sL, m_AD_sL, m_AR_sL, m_n_sL, m_I_sR, m_L_sR, m_R_sR, m_AI_sR, m_AL_sR, m_AD_sR, m_AR_sR, m_n_sR, m_I_rI, m_L_rI, m_R_rI, m_AI_rI, m_AL_rI, m_AD_rI, m_AR_rI, m_n_rI, m_I_rL, m_L_rL, m_R_rL, m_AI_rL, m_AL_rL, m_AD_rL, m_AR_rL, m_n_rL, m_I_rD, m_L_rD, m_R_rD, m_AI_rD, m_AL_rD, m_AD_rD, m_AR_rD, m_n_rD, m_I_rR, m_L_rR, m_R_rR, m_AI_rR, m_AL_rR, m_AD_rR, m_AR_rR, m_n_rR, true_and, and_true, and_false, false_and, and_self, if_true, if_false, ite_self, Nat.reduceEqDiff, reduceIte, Option.bind_some, jlet, jbd_some, jbd_ite, bind_ite]
      rw [if_neg (by omega), if_pos (by omega), if_neg (by omega), if_pos (by omega), if_neg (by omega), if_neg (by omega)]
      exact ⟨_, rfl, by rw [n4 i j (by omega) (by omega)]⟩
    · simp only [k_0, k_2398, ← n1, hs1, in0, i_le, i_lt, i2l_toInt, Int32.reduceToInt, Int64.reduceToInt, t_0, t_l0, t_m40, t_lm40, m_I_sI, m_L_sI, m_R_sI, m_AI_sI, m_AL_sI, m_AD_sI, m_AR_sI, m_n_sI, m_I_sL, m_L_sL, m_R_sL, m_AI_sL, m_AL_sL, m_AD_sL, m_AR_sL, m_n_sL, m_I_sR, m_L_sR, m_R_sR, m_AI_sR, m_AL_sR, m_AD_sR, m_AR_sR, m_n_sR, m_I_rI, m_L_rI, m_R_rI, m_AI_rI, m_AL_rI, m_AD_rI, m_AR_rI, m_n_rI, m_I_rL, m_L_rL, m_R_rL, m_AI_rL, m_AL_rL, m_AD_rL, m_AR_rL, m_n_rL, m_I_rD, m_L_rD, m_R_rD, m_AI_rD, m_AL_rD, m_AD_rD, m_AR_rD, m_n_rD, m_I_rR, m_L_rR, m_R_rR, m_AI_rR, m_AL_rR, m_AD_rR, m_AR_rR, m_n_rR, true_and, and_true, and_false, false_and, and_self, if_true, if_false, ite_self, Nat.reduceEqDiff, reduceIte, Option.bind_some, jlet, jbd_some, jbd_ite, bind_ite]
      by_cases c3 : w.toInt < 0
      · rw [if_neg (by omega), if_pos (by omega), if_pos c3, if_neg (by omega), if_pos (by omega)]; exact ⟨_, rfl, rfl⟩
      · rw [if_neg (by omega), if_pos (by omega), if_neg c3, if_neg (by omega), if_neg (by omega), if_pos (by omega)]; exact ⟨_, rfl, rfl⟩
  · simp only [k_0, k_2398, ← n1, hs1, in0, i_le, i_lt, i2l_toInt, Int32.reduceToInt, Int64.reduceToInt, t_0, t_l0, t_m40, t_lm40, m_I_sI, m_L_sI, m_R_sI, m_AI_sI, m_AL_sI, m_AD_sI, m_AR_sI, m_n_sI, m_I_sL, m_L_sL, m_R_sL, m_AI_sL, m_AL_sL, m_AD_sL, m_AR_sL, m_n_sL, m_I_sR, m_L_sR, m_R_sR, m_AI_sR, m_AL_sR, m_AD_sR, m_AR_sR, m_n_sR, m_I_rI, m_L_rI, m_R_rI, m_AI_rI, m_AL_rI, m_AD_rI, m_AR_rI, m_n_rI, m_I_rL, m_L_rL, m_R_rL, m_AI_rL, m_AL_rL, m_AD_rL, m_AR_rL, m_n_rL, m_I_rD, m_L_rD, m_R_rD, m_AI_rD, m_AL_rD, m_AD_rD, m_AR_rD, m_n_rD, m_I_rR, m_L_rR, m_R_rR, m_AI_rR, m_AL_rR, m_AD_rR, m_AR_rR, m_n_rR, true_and, and_true, and_false, false_and, and_self, if_true, if_false, ite_self, Nat.reduceEqDiff, reduceIte, Option.bind_some, jlet, jbd_some, jbd_ite, bind_ite]
    by_cases c3 : v.toInt < 0
    · rw [if_pos c3, if_pos (by omega)]; exact ⟨_, rfl, rfl⟩
    · rw [if_neg c3, if_neg (by omega), if_pos (by omega)]; exact ⟨_, rfl, rfl⟩
theorem q_returned {C R : jM} (hC : Lay C) (hR : Lay R) (h : Rel C R) (v : Int32) : Sim (f_X11_returned 0 v) (f_X12_returned 2398 v) C R := by
  obtain ⟨n1, n2, n3, n4, n5⟩ := h.Y
  unfold Sim f_X11_returned f_X12_returned
  have hs1 := i_sub1 (a := jI C 81 0) (by omega)
  by_cases c : 0 ≤ v.toInt ∧ v.toInt < (jI C 81 0).toInt
  · obtain ⟨i, hi⟩ : ∃ i : Nat, (i : Int) = v.toInt := ⟨v.toInt.toNat, by omega⟩
    have hcl : v.toNatClampNeg = i := by rw [i_cl]; omega
    have hc6 : ((6 : Int32)).toNatClampNeg = 6 := by decide
    obtain ⟨f1, f2, f3, f4, f5, f6, f7⟩ := n4 i (by omega)
    have hp := kf_pay (show i < 200 by omega)
    rw [Nat.one_mul] at hp
    have hA1 : jA 2196 20 v = true := jA_iff.mpr ⟨k_2196, c.1, by rw [ln_2196]; omega⟩
    have hA2 : jA (2197 + i) 14 (6 : Int32) = true := jA_iff.mpr ⟨hp.1, by decide, by rw [hp.2]; decide⟩
    have hA3 : jA 2448 15 v = true := jA_iff.mpr ⟨k_2448, c.1, by rw [ln_2448]; omega⟩
    simp only [ly_80 hC, ly_172 hR, k_0, k_2398, hcl, hc6, ly_py hC (show i < 200 by omega), hA1, hA2, hA3, ← n1, hs1, nar_b (.inr rfl), in0, i_le, i_lt, i2l_toInt, Int32.reduceToInt, Int64.reduceToInt, t_0, t_l0, t_m40, t_lm40, m_I_sI, m_L_sI, m_R_sI, m_AI_sI, m_AL_sI, m_AD_sI, m_AR_sI, m_n_sI, m_I_sL, m_L_sL, m_R_sL, m_AI_sL, m_AL_sL, m_AD_sL, m_AR_sL, m_n_sL, m_I_sR, m_L_sR, m_R_sR, m_AI_sR, m_AL_sR, m_AD_sR, m_AR_sR, m_n_sR, m_I_rI, m_L_rI, m_R_rI, m_AI_rI, m_AL_rI, m_AD_rI, m_AR_rI, m_n_rI, m_I_rL, m_L_rL, m_R_rL, m_AI_rL, m_AL_rL, m_AD_rL, m_AR_rL, m_n_rL, m_I_rD, m_L_rD, m_R_rD, m_AI_rD, m_AL_rD, m_AD_rD, m_AR_rD, m_n_rD, m_I_rR, m_L_rR, m_R_rR, m_AI_rR, m_AL_rR, m_AD_rR, m_AR_rR, m_n_rR, true_and, and_true, and_false, false_and, and_self, if_true, if_false, ite_self, Nat.reduceEqDiff, reduceIte, Option.bind_some, jlet, jbd_some, jbd_ite, bind_ite]
    rw [f4]
    rcases f5 with f5 | f5
    · rw [f5]
      rw [if_neg (by omega), if_pos (by omega), if_pos (by decide), if_neg (by omega), if_pos (by decide)]
      have hF : Fr (fun t f a => t = 3 ∧ a = 2197 + i) C (jrL C (2197 + i) (vp_updL (jAL C (2197 + i)) 6 1)) := (Fr.refl).rL (by omega)
      have hG : Fr (fun t f a => t = 3 ∧ a = 2448) R (jrI R 2448 (upd (jAI R 2448) i 1)) := (Fr.refl).rI (by omega)
      have hs : ∀ s, s < 225 → sS R (jrI R 2448 (upd (jAI R 2448) i 1)) s := fun s _ => hG.sS (fun a _ _ => by omega) s
      have hx : ∀ t, t < 33 → sX R (jrI R 2448 (upd (jAI R 2448) i 1)) t := fun t _ => hG.sX (fun a _ _ => by omega) t
      have hP : rY (jrL C (2197 + i) (vp_updL (jAL C (2197 + i)) 6 1)) (jrI R 2448 (upd (jAI R 2448) i 1)) := by
        unfold rY
        simp only [m_I_sI, m_L_sI, m_R_sI, m_AI_sI, m_AL_sI, m_AD_sI, m_AR_sI, m_n_sI, m_I_sL, m_L_sL, m_R_sL, m_AI_sL, m_AL_sL, m_AD_sL, m_AR_sL, m_n_sL, m_I_sR, m_L_sR, m_R_sR, m_AI_sR, m_AL_sR, m_AD_sR, m_AR_sR, m_n_sR, m_I_rI, m_L_rI, m_R_rI, m_AI_rI, m_AL_rI, m_AD_rI, m_AR_rI, m_n_rI, m_I_rL, m_L_rL, m_R_rL, m_AI_rL, m_AL_rL, m_AD_rL, m_AR_rL, m_n_rL, m_I_rD, m_L_rD, m_R_rD, m_AI_rD, m_AL_rD, m_AD_rD, m_AR_rD, m_n_rD, m_I_rR, m_L_rR, m_R_rR, m_AI_rR, m_AL_rR, m_AD_rR, m_AR_rR, m_n_rR, Nat.reduceEqDiff, false_and, true_and, if_true, reduceIte, false_and, if_false]
        refine ⟨n1, n2, n3, fun j hj => ?_, fun k j hk hj => ?_⟩
        · obtain ⟨g1, g2, g3, g4, g5, g6, g7⟩ := n4 j hj
          by_cases e : j = i
          · subst e
            simp only [if_true, upd_if, updL_if]
            exact ⟨g1, g2, fun q hq => by rw [if_neg (by omega)]; exact g3 q hq, by decide, by decide, g6, g7⟩
          · rw [if_neg (by omega)]
            simp only [upd_if, if_neg e]
            exact ⟨g1, g2, g3, g4, g5, g6, g7⟩
        · by_cases e : k = i
          · subst e
            simp only [if_true, updL_if]
            rw [if_neg (by omega)]; exact n5 k j hk hj
          · rw [if_neg (by omega)]; exact n5 k j hk hj
      refine ⟨_, _, _, rfl, rfl, ?_, hF.mono (fun t f a z => by have := k16 a; unfold pC; omega), hG.mono (fun t f a z => by have := k16r a; unfold pR; omega)⟩
      exact ⟨rT_f hF hG (fun t f a => by unfold cT; omega) (fun t f a => by unfold mT; omega) h.T,
          rN_f hF hG (fun t f a => by unfold cN; omega) (fun t f a => by unfold mN; omega) h.N,
          rP_f hF hG (fun t f a => by unfold cP; omega) (fun t f a => by unfold mP; omega) h.P,
          rD_f hF hG (fun t f a => by unfold cD; omega) (fun _ _ _ z => z.elim) (hs 0 (by omega)) h.D,
          rF_f hF hG (fun t f a => by unfold cF; omega) (fun t f a => by unfold mF; omega) (fun s _ _ => hs s (by omega)) h.F,
          rU_f hF hG (fun t f a => by unfold cU; omega) (fun t f a => by unfold mU; omega) h.U,
          rA_f hF hG (fun t f a => by unfold cA; omega) (fun t f a => by unfold mA; omega) h.A,
          hP,
          rR_f hF hG (fun t f a => by unfold cR; omega) (fun t f a => by unfold mR; omega) h.R,
          rS_f hF hG (fun t f a => by unfold cS; omega) (fun t f a => by unfold mS; omega) (fun s _ _ => hs s (by omega)) h.S,
          rE_f hF hG (fun t f a => by unfold cE; omega) (fun t f a => by unfold mE; omega) (fun t _ => hx t (by omega)) h.E⟩
    · rw [f5]
      rw [if_neg (by omega), if_pos (by omega), if_neg (by decide), if_neg (by omega), if_neg (by decide)]
      exact ⟨_, _, _, rfl, rfl, h.fr_self⟩
  · simp only [ly_80 hC, k_0, k_2398, ← n1, hs1, in0, i_le, i_lt, i2l_toInt, Int32.reduceToInt, Int64.reduceToInt, t_0, t_l0, t_m40, t_lm40, m_I_sI, m_L_sI, m_R_sI, m_AI_sI, m_AL_sI, m_AD_sI, m_AR_sI, m_n_sI, m_I_sL, m_L_sL, m_R_sL, m_AI_sL, m_AL_sL, m_AD_sL, m_AR_sL, m_n_sL, m_I_sR, m_L_sR, m_R_sR, m_AI_sR, m_AL_sR, m_AD_sR, m_AR_sR, m_n_sR, m_I_rI, m_L_rI, m_R_rI, m_AI_rI, m_AL_rI, m_AD_rI, m_AR_rI, m_n_rI, m_I_rL, m_L_rL, m_R_rL, m_AI_rL, m_AL_rL, m_AD_rL, m_AR_rL, m_n_rL, m_I_rD, m_L_rD, m_R_rD, m_AI_rD, m_AL_rD, m_AD_rD, m_AR_rD, m_n_rD, m_I_rR, m_L_rR, m_R_rR, m_AI_rR, m_AL_rR, m_AD_rR, m_AR_rR, m_n_rR, true_and, and_true, and_false, false_and, and_self, if_true, if_false, ite_self, Nat.reduceEqDiff, reduceIte, Option.bind_some, jlet, jbd_some, jbd_ite, bind_ite]
    by_cases c3 : v.toInt < 0
    · rw [if_pos c3, if_pos (by omega)]
      exact ⟨_, _, _, rfl, rfl, h.fr_self⟩
    · rw [if_neg c3, if_neg (by omega), if_pos (by omega)]
      exact ⟨_, _, _, rfl, rfl, h.fr_self⟩
theorem q_payment {C R : jM} (hC : Lay C) (hR : Lay R) (h : Rel C R) (v w : Int32) : SimR (f_X11_payment 0 v w) (f_X12_payment 2398 v w) C R := by
  obtain ⟨n1, n2, n3, n4, n5⟩ := h.Y
  unfold SimR f_X11_payment f_X12_payment
  have hs1 := i_sub1 (a := jI C 81 0) (by omega)
  by_cases c : 0 ≤ v.toInt ∧ v.toInt < (jI C 81 0).toInt
  · by_cases c2 : 0 ≤ w.toInt ∧ w.toInt < 8
    · obtain ⟨i, hi⟩ : ∃ i : Nat, (i : Int) = v.toInt := ⟨v.toInt.toNat, by omega⟩
      obtain ⟨j, hj⟩ : ∃ j : Nat, (j : Int) = w.toInt := ⟨w.toInt.toNat, by omega⟩
      have hcl : v.toNatClampNeg = i := by rw [i_cl]; omega
      have hcw : w.toNatClampNeg = j := by rw [i_cl]; omega
      obtain ⟨f1, f2, f3, f4, f5, f6, f7⟩ := n4 i (by omega)
      have hp := kf_pay (show i < 200 by omega)
      rw [Nat.one_mul] at hp
      have h4 : ((4 : Int32) * v).toInt = 4 * v.toInt := i_mul (by rw [show (4 : Int32).toInt = 4 from rfl]; omega) (by rw [show (4 : Int32).toInt = 4 from rfl]; omega)
      have h44 : ((4 : Int32) * v + w).toInt = 4 * v.toInt + w.toInt := by rw [i_add, h4] <;> rw [h4] <;> omega
      have h45 : ((4 : Int32) * v + w - 2).toInt = 4 * v.toInt + w.toInt - 2 := by rw [i_sub, h44, show (2 : Int32).toInt = 2 from rfl] <;> rw [h44, show (2 : Int32).toInt = 2 from rfl] <;> omega
      have hA1 : jA 2196 20 v = true := jA_iff.mpr ⟨k_2196, c.1, by rw [ln_2196]; omega⟩
      have hA2 : jA (2197 + i) 14 w = true := jA_iff.mpr ⟨hp.1, c2.1, by rw [hp.2]; omega⟩
      have hA3 : jA 2445 13 v = true := jA_iff.mpr ⟨k_2445, c.1, by rw [ln_2445]; omega⟩
      have hA4 : jA 2446 13 v = true := jA_iff.mpr ⟨k_2446, c.1, by rw [ln_2446]; omega⟩
      have hA5 : jA 2448 15 v = true := jA_iff.mpr ⟨k_2448, c.1, by rw [ln_2448]; omega⟩
      have hA6 : jA 2449 15 v = true := jA_iff.mpr ⟨k_2449, c.1, by rw [ln_2449]; omega⟩
      simp only [ly_80 hC, ly_169 hR, ly_170 hR, ly_171 hR, ly_172 hR, ly_173 hR, k_0, k_2398, hcl, hcw, ly_py hC (show i < 200 by omega), hA1, hA2, hA3, hA4, hA5, hA6, ← n1, hs1, in0, i_le, i_lt, i2l_toInt, Int32.reduceToInt, Int64.reduceToInt, t_0, t_l0, t_m40, t_lm40, m_I_sI, m_L_sI, m_R_sI, m_AI_sI, m_AL_sI, m_AD_sI, m_AR_sI, m_n_sI, m_I_sL, m_L_sL, m_R_sL, m_AI_sL, m_AL_sL, m_AD_sL, m_AR_sL, m_n_sL, m_I_sR, m_L_sR, m_R_sR, m_AI_sR, m_AL_sR, m_AD_sR, m_AR_sR, m_n_sR, m_I_rI, m_L_rI, m_R_rI, m_AI_rI, m_AL_rI, m_AD_rI, m_AR_rI, m_n_rI, m_I_rL, m_L_rL, m_R_rL, m_AI_rL, m_AL_rL, m_AD_rL, m_AR_rL, m_n_rL, m_I_rD, m_L_rD, m_R_rD, m_AI_rD, m_AL_rD, m_AD_rD, m_AR_rD, m_n_rD, m_I_rR, m_L_rR, m_R_rR, m_AI_rR, m_AL_rR, m_AD_rR, m_AR_rR, m_n_rR, true_and, and_true, and_false, false_and, and_self, if_true, if_false, ite_self, Nat.reduceEqDiff, reduceIte, Option.bind_some, jlet, jbd_some, jbd_ite, bind_ite]
      have hw : ∀ k : Nat, (w = nI k ↔ j = k) ∨ 8 ≤ k := fun k => by
        by_cases hk : k < 8
        · left; rw [i_eq, nI_toInt (by omega)]; omega
        · right; omega
      have e0 : w = 0 ↔ j = 0 := (hw 0).resolve_right (by omega)
      have e1 : w = 1 ↔ j = 1 := (hw 1).resolve_right (by omega)
      have e6 : w = 6 ↔ j = 6 := (hw 6).resolve_right (by omega)
      have e7 : w = 7 ↔ j = 7 := (hw 7).resolve_right (by omega)
      simp only [e0, e1, e6, e7]
      rw [if_neg (by omega), if_neg (by omega), if_neg (by omega), if_pos (by omega), if_neg (by omega), if_neg (by omega)]
      refine ⟨_, rfl, ?_⟩
      by_cases j0 : j = 0
      · subst j0; rw [if_pos rfl, f1]
      rw [if_neg j0]
      by_cases j1 : j = 1
      · subst j1; rw [if_pos rfl, f2]
      rw [if_neg j1]
      by_cases j6 : j = 6
      · subst j6; rw [if_pos rfl, f4]
        rcases f5 with f5 | f5
        · rw [f5, if_pos rfl]; rfl
        · rw [f5, if_neg (by decide)]; rfl
      rw [if_neg j6]
      by_cases j7 : j = 7
      · subst j7; rw [if_pos rfl, f6]
        rcases f7 with f7 | f7
        · rw [f7, if_pos rfl]; rfl
        · rw [f7, if_neg (by decide)]; rfl
      rw [if_neg j7]
      have hA7 : jA 2447 14 ((4 : Int32) * v + w - 2) = true := jA_iff.mpr ⟨k_2447, by omega, by rw [ln_2447]; omega⟩
      rw [if_pos hA7, show ((4 : Int32) * v + w - 2).toNatClampNeg = 4 * i + (j - 2) from by rw [i_cl, h45]; omega, ← f3 (j - 2) (by omega), show 2 + (j - 2) = j from by omega]
    · simp only [k_0, k_2398, ← n1, hs1, in0, i_le, i_lt, i2l_toInt, Int32.reduceToInt, Int64.reduceToInt, t_0, t_l0, t_m40, t_lm40, m_I_sI, m_L_sI, m_R_sI, m_AI_sI, m_AL_sI, m_AD_sI, m_AR_sI, m_n_sI, m_I_sL, m_L_sL, m_R_sL, m_AI_sL, m_AL_sL, m_AD_sL, m_AR_sL, m_n_sL, m_I_sR, m_L_sR, m_R_sR, m_AI_sR, m_AL_sR, m_AD_sR, m_AR_sR, m_n_sR, m_I_rI, m_L_rI, m_R_rI, m_AI_rI, m_AL_rI, m_AD_rI, m_AR_rI, m_n_rI, m_I_rL, m_L_rL, m_R_rL, m_AI_rL, m_AL_rL, m_AD_rL, m_AR_rL, m_n_rL, m_I_rD, m_L_rD, m_R_rD, m_AI_rD, m_AL_rD, m_AD_rD, m_AR_rD, m_n_rD, m_I_rR, m_L_rR, m_R_rR, m_AI_rR, m_AL_rR, m_AD_rR, m_AR_rR, m_n_rR, true_and, and_true, and_false, false_and, and_self, if_true, if_false, ite_self, Nat.reduceEqDiff, reduceIte, Option.bind_some, jlet, jbd_some, jbd_ite, bind_ite]
      by_cases c3 : w.toInt < 0
      · rw [if_neg (by omega), if_neg (by omega), if_pos c3, if_neg (by omega), if_pos (by omega)]; exact ⟨_, rfl, rfl⟩
      · rw [if_neg (by omega), if_neg (by omega), if_neg c3, if_neg (by omega), if_neg (by omega), if_pos (by omega)]; exact ⟨_, rfl, rfl⟩
  · simp only [k_0, k_2398, ← n1, hs1, in0, i_le, i_lt, i2l_toInt, Int32.reduceToInt, Int64.reduceToInt, t_0, t_l0, t_m40, t_lm40, m_I_sI, m_L_sI, m_R_sI, m_AI_sI, m_AL_sI, m_AD_sI, m_AR_sI, m_n_sI, m_I_sL, m_L_sL, m_R_sL, m_AI_sL, m_AL_sL, m_AD_sL, m_AR_sL, m_n_sL, m_I_sR, m_L_sR, m_R_sR, m_AI_sR, m_AL_sR, m_AD_sR, m_AR_sR, m_n_sR, m_I_rI, m_L_rI, m_R_rI, m_AI_rI, m_AL_rI, m_AD_rI, m_AR_rI, m_n_rI, m_I_rL, m_L_rL, m_R_rL, m_AI_rL, m_AL_rL, m_AD_rL, m_AR_rL, m_n_rL, m_I_rD, m_L_rD, m_R_rD, m_AI_rD, m_AL_rD, m_AD_rD, m_AR_rD, m_n_rD, m_I_rR, m_L_rR, m_R_rR, m_AI_rR, m_AL_rR, m_AD_rR, m_AR_rR, m_n_rR, true_and, and_true, and_false, false_and, and_self, if_true, if_false, ite_self, Nat.reduceEqDiff, reduceIte, Option.bind_some, jlet, jbd_some, jbd_ite, bind_ite]
    by_cases c3 : v.toInt < 0
    · rw [if_pos c3, if_pos (by omega)]; exact ⟨_, rfl, rfl⟩
    · rw [if_neg c3, if_pos (by omega), if_pos (by omega)]; exact ⟨_, rfl, rfl⟩

/-! PURE: award, run -/
theorem rR_n {C R : jM} {v : Int32} (h : rR C R) (hv : (jI C 79 0).toInt ≤ v.toInt) : rR (jsI C 79 0 v) R := by
  obtain ⟨h1, h2, h3, h4, h5, h6, h7, h8, h9, h10, h11⟩ := h
  refine ⟨h1, h2, h3, h4, h5, h6, h7, h8, h9, h10, fun j hj => ?_⟩
  obtain ⟨a1, a2, a3⟩ := h11 j hj
  have a3 : (jAI C 2397 j).toInt < (jI C 79 0).toInt := a3
  have : (jAI C 2397 j).toInt < v.toInt := by omega
  exact ⟨a1, a2, this⟩
theorem award_loop {C R : jM} (hC : Lay C) (hR : Lay R) (h : Rel C R) {m sc mo : Int32} (hm : 0 ≤ m.toInt ∧ m.toInt ≤ 9) (hs0 : 0 ≤ sc.toInt ∧ sc.toInt ≤ 3) (hmo : 0 ≤ mo.toInt ∧ mo.toInt ≤ 12) : ∀ (k fuel : Nat) (i : Int32), k < fuel → i.toInt = (jI C 79 0).toInt - k → (k : Int) ≤ (jI C 79 0).toInt → Sim (f_X11_award_30 fuel 0 m sc mo i) (f_X12_award_45 fuel 2398 m sc mo i) C R := by
  obtain ⟨n1, n2, n3, n4, n5⟩ := h.A
  intro k
  induction k with
  | zero =>
    intro fuel i hf hi hk
    obtain ⟨q, rfl⟩ : ∃ q, fuel = q + 1 := ⟨fuel - 1, by omega⟩
    unfold Sim f_X11_award_30 f_X12_award_45
    have hle : jI C 79 0 ≤ i := by rw [i_le]; omega
    by_cases c : jI C 79 0 = 6
    · simp only [k_0, k_2398, ← n1, hle, if_true, if_pos c]
      exact ⟨_, _, _, rfl, rfl, h.fr_self⟩
    · have c6 : (jI C 79 0).toInt ≠ 6 := fun e => c (by rw [i_eq]; exact e)
      obtain ⟨n, hn⟩ : ∃ n : Nat, (n : Int) = (jI C 79 0).toInt := ⟨(jI C 79 0).toInt.toNat, by omega⟩
      have hcl : (jI C 79 0).toNatClampNeg = n := by rw [i_cl]; omega
      have hkn := kf_award (show n < 6 by omega)
      have hA1 : jA 2177 16 (jI C 79 0) = true := jA_iff.mpr ⟨k_2177, by omega, by rw [ln_2177]; omega⟩
      have hA2 : jA 2438 13 (jI C 79 0) = true := jA_iff.mpr ⟨k_2438, by omega, by rw [ln_2438]; omega⟩
      have hA3 : jA 2439 13 (jI C 79 0) = true := jA_iff.mpr ⟨k_2439, by omega, by rw [ln_2439]; omega⟩
      have hA4 : jA 2440 13 (jI C 79 0) = true := jA_iff.mpr ⟨k_2440, by omega, by rw [ln_2440]; omega⟩
      have hA5 : jA 2443 13 (jI C 79 0) = true := jA_iff.mpr ⟨k_2443, by omega, by rw [ln_2443]; omega⟩
      have hnn : (jI C 79 0 + 1).toInt = (jI C 79 0).toInt + 1 := i_add1 (by omega)
      simp only [ly_78 hC, ly_157 hR, ly_158 hR, ly_159 hR, ly_163 hR, k_0, k_2398, ← n1, hle, if_neg c, hcl, ly_aw hC (show n < 6 by omega), hkn, hA1, hA2, hA3, hA4, hA5, m_I_sI, m_L_sI, m_R_sI, m_AI_sI, m_AL_sI, m_AD_sI, m_AR_sI, m_n_sI, m_I_sL, m_L_sL, m_R_sL, m_AI_sL, m_AL_sL, m_AD_sL, m_AR_sL, m_n_sL, m_I_sR, m_L_sR, m_R_sR, m_AI_sR, m_AL_sR, m_AD_sR, m_AR_sR, m_n_sR, m_I_rI, m_L_rI, m_R_rI, m_AI_rI, m_AL_rI, m_AD_rI, m_AR_rI, m_n_rI, m_I_rL, m_L_rL, m_R_rL, m_AI_rL, m_AL_rL, m_AD_rL, m_AR_rL, m_n_rL, m_I_rD, m_L_rD, m_R_rD, m_AI_rD, m_AL_rD, m_AD_rD, m_AR_rD, m_n_rD, m_I_rR, m_L_rR, m_R_rR, m_AI_rR, m_AL_rR, m_AD_rR, m_AR_rR, m_n_rR, true_and, and_true, and_false, false_and, and_self, if_true, if_false, ite_self, Nat.reduceEqDiff, reduceIte, Option.bind_some, jlet, jbd_some, jbd_ite, bind_ite]
      have hF : Fr (fun t f a => (t = 0 ∧ f ≤ 2 ∧ a = 2178 + 3 * n) ∨ (t = 0 ∧ f = 79 ∧ a = 0)) C (jsI (jsI (jsI (jsI C 0 (2178 + 3 * n) m) 1 (2178 + 3 * n) sc) 2 (2178 + 3 * n) mo) 79 0 (jI C 79 0 + 1)) := ((((Fr.refl).sI (by omega)).sI (by omega)).sI (by omega)).sI (by omega)
      have hG : Fr (fun t f a => (t = 0 ∧ f = 160 ∧ a = 2398) ∨ (t = 3 ∧ (a = 2438 ∨ a = 2439 ∨ a = 2440 ∨ a = 2443))) R (jsI (jrI (jrI (jrI (jrI R 2438 (upd (jAI R 2438) n m)) 2439 (upd (jAI R 2439) n sc)) 2440 (upd (jAI R 2440) n mo)) 2443 (upd (jAI R 2443) n 0)) 160 2398 (jI C 79 0 + 1)) := (((((Fr.refl).rI (by omega)).rI (by omega)).rI (by omega)).rI (by omega)).sI (by omega)
      have hs : ∀ s, s < 225 → sS R (jsI (jrI (jrI (jrI (jrI R 2438 (upd (jAI R 2438) n m)) 2439 (upd (jAI R 2439) n sc)) 2440 (upd (jAI R 2440) n mo)) 2443 (upd (jAI R 2443) n 0)) 160 2398 (jI C 79 0 + 1)) s := fun s _ => hG.sS (fun a _ _ => by omega) s
      have hx : ∀ t, t < 33 → sX R (jsI (jrI (jrI (jrI (jrI R 2438 (upd (jAI R 2438) n m)) 2439 (upd (jAI R 2439) n sc)) 2440 (upd (jAI R 2440) n mo)) 2443 (upd (jAI R 2443) n 0)) 160 2398 (jI C 79 0 + 1)) t := fun t _ => hG.sX (fun a _ _ => by omega) t
      have hF1 : Fr (fun t f a => t = 0 ∧ f ≤ 2 ∧ a = 2178 + 3 * n) C (jsI (jsI (jsI C 0 (2178 + 3 * n) m) 1 (2178 + 3 * n) sc) 2 (2178 + 3 * n) mo) := (((Fr.refl).sI (by omega)).sI (by omega)).sI (by omega)
      have hP : rA (jsI (jsI (jsI (jsI C 0 (2178 + 3 * n) m) 1 (2178 + 3 * n) sc) 2 (2178 + 3 * n) mo) 79 0 (jI C 79 0 + 1)) (jsI (jrI (jrI (jrI (jrI R 2438 (upd (jAI R 2438) n m)) 2439 (upd (jAI R 2439) n sc)) 2440 (upd (jAI R 2440) n mo)) 2443 (upd (jAI R 2443) n 0)) 160 2398 (jI C 79 0 + 1)) := by
        unfold rA
        simp only [m_I_sI, m_L_sI, m_R_sI, m_AI_sI, m_AL_sI, m_AD_sI, m_AR_sI, m_n_sI, m_I_sL, m_L_sL, m_R_sL, m_AI_sL, m_AL_sL, m_AD_sL, m_AR_sL, m_n_sL, m_I_sR, m_L_sR, m_R_sR, m_AI_sR, m_AL_sR, m_AD_sR, m_AR_sR, m_n_sR, m_I_rI, m_L_rI, m_R_rI, m_AI_rI, m_AL_rI, m_AD_rI, m_AR_rI, m_n_rI, m_I_rL, m_L_rL, m_R_rL, m_AI_rL, m_AL_rL, m_AD_rL, m_AR_rL, m_n_rL, m_I_rD, m_L_rD, m_R_rD, m_AI_rD, m_AL_rD, m_AD_rD, m_AR_rD, m_n_rD, m_I_rR, m_L_rR, m_R_rR, m_AI_rR, m_AL_rR, m_AD_rR, m_AR_rR, m_n_rR, true_and, and_true, and_false, false_and, and_self, if_true, if_false, ite_self, Nat.reduceEqDiff, reduceIte, Option.bind_some, jlet, jbd_some, jbd_ite, bind_ite, hnn]
        refine ⟨by omega, by omega, fun j hj => ?_, fun j hj hj2 => ?_⟩
        · by_cases e : j = n
          · subst e
            have h3 := n5 j (by omega) (by omega)
            simp only [upd_if, true_and, and_true, and_false, false_and, and_self, if_true, if_false, ite_self, Nat.reduceEqDiff, reduceIte, Option.bind_some, jlet, jbd_some, jbd_ite, bind_ite, h3]
            exact ⟨hm, hs0, hmo, by rw [t_0]; omega, fun q hq => by rw [t_0] at hq; omega⟩
          · have e1 : ¬ (2178 + 3 * j = 2178 + 3 * n) := by omega
            simp only [upd_if, if_neg e, e1, and_false, if_false]
            exact n4 j (by omega)
        · exact n5 j (by omega) hj2
      refine ⟨_, _, _, rfl, by rw [t_as], ?_, hF.mono (fun t f a z => by have := k16 a; unfold pC; omega), hG.mono (fun t f a z => by have := k16r a; unfold pR; omega)⟩
      exact ⟨rT_f hF hG (fun t f a => by unfold cT; omega) (fun t f a => by unfold mT; omega) h.T,
          rN_f hF hG (fun t f a => by unfold cN; omega) (fun t f a => by unfold mN; omega) h.N,
          rP_f hF hG (fun t f a => by unfold cP; omega) (fun t f a => by unfold mP; omega) h.P,
          rD_f hF hG (fun t f a => by unfold cD; omega) (fun _ _ _ z => z.elim) (hs 0 (by omega)) h.D,
          rF_f hF hG (fun t f a => by unfold cF; omega) (fun t f a => by unfold mF; omega) (fun s _ _ => hs s (by omega)) h.F,
          rU_f hF hG (fun t f a => by unfold cU; omega) (fun t f a => by unfold mU; omega) h.U,
          hP,
          rY_f hF hG (fun t f a => by unfold cY; omega) (fun t f a => by unfold mY; omega) h.Y,
          rR_n (rR_f hF1 hG (fun t f a => by unfold cR; omega) (fun t f a => by unfold mR; omega) h.R) (by show (jI C 79 0).toInt ≤ _; omega),
          rS_f hF hG (fun t f a => by unfold cS; omega) (fun t f a => by unfold mS; omega) (fun s _ _ => hs s (by omega)) h.S,
          rE_f hF hG (fun t f a => by unfold cE; omega) (fun t f a => by unfold mE; omega) (fun t _ => hx t (by omega)) h.E⟩
  | succ k ih =>
    intro fuel i hf hi hk
    obtain ⟨q, rfl⟩ : ∃ q, fuel = q + 1 := ⟨fuel - 1, by omega⟩
    have hnext := ih q (i + 1) (by omega) (by rw [i_add1 (by omega)]; omega) (by omega)
    obtain ⟨n, hn⟩ : ∃ n : Nat, (n : Int) = i.toInt := ⟨i.toInt.toNat, by omega⟩
    have hcl : i.toNatClampNeg = n := by rw [i_cl]; omega
    have hkn := kf_award (show n < 6 by omega)
    obtain ⟨f1, f2, f3, -⟩ := n4 n (by omega)
    have hle : ¬ jI C 79 0 ≤ i := by rw [i_le]; omega
    have hA1 : jA 2177 16 i = true := jA_iff.mpr ⟨k_2177, by omega, by rw [ln_2177]; omega⟩
    have hA2 : jA 2438 13 i = true := jA_iff.mpr ⟨k_2438, by omega, by rw [ln_2438]; omega⟩
    have hA3 : jA 2439 13 i = true := jA_iff.mpr ⟨k_2439, by omega, by rw [ln_2439]; omega⟩
    unfold Sim at hnext ⊢
    unfold f_X11_award_30 f_X12_award_45 f_X11_award_70 f_X12_award_79
    simp only [ly_78 hC, ly_157 hR, ly_158 hR, k_0, k_2398, ← n1, if_neg hle, hcl, ly_aw hC (show n < 6 by omega), hkn, hA1, hA2, hA3, ← f1, ← f2, m_I_sI, m_L_sI, m_R_sI, m_AI_sI, m_AL_sI, m_AD_sI, m_AR_sI, m_n_sI, m_I_sL, m_L_sL, m_R_sL, m_AI_sL, m_AL_sL, m_AD_sL, m_AR_sL, m_n_sL, m_I_sR, m_L_sR, m_R_sR, m_AI_sR, m_AL_sR, m_AD_sR, m_AR_sR, m_n_sR, m_I_rI, m_L_rI, m_R_rI, m_AI_rI, m_AL_rI, m_AD_rI, m_AR_rI, m_n_rI, m_I_rL, m_L_rL, m_R_rL, m_AI_rL, m_AL_rL, m_AD_rL, m_AR_rL, m_n_rL, m_I_rD, m_L_rD, m_R_rD, m_AI_rD, m_AL_rD, m_AD_rD, m_AR_rD, m_n_rD, m_I_rR, m_L_rR, m_R_rR, m_AI_rR, m_AL_rR, m_AD_rR, m_AR_rR, m_n_rR, true_and, and_true, and_false, false_and, and_self, if_true, if_false, ite_self, Nat.reduceEqDiff, reduceIte, Option.bind_some, jlet, jbd_some, jbd_ite, bind_ite]
    by_cases c1 : jI C 0 (2178 + 3 * n) = m
    · by_cases c2 : jI C 1 (2178 + 3 * n) = sc
      · simp only [if_pos c1, if_pos c2]
        exact ⟨_, _, _, rfl, rfl, h.fr_self⟩
      · simp only [if_pos c1, if_neg c2]
        exact hnext
    · simp only [if_neg c1]
      exact hnext
theorem q_award {C R : jM} (hC : Lay C) (hR : Lay R) (h : Rel C R) (m sc mo : Int32) : Sim (f_X11_award 0 m sc mo) (f_X12_award 2398 m sc mo) C R := by
  have hA := h.A
  obtain ⟨n1, n2, n3, -, -⟩ := hA
  by_cases c1 : 0 ≤ m.toInt ∧ m.toInt ≤ 9
  · by_cases c2 : 0 ≤ sc.toInt ∧ sc.toInt ≤ 3
    · by_cases c3 : 0 ≤ mo.toInt ∧ mo.toInt ≤ 12
      · have := award_loop hC hR h c1 c2 c3 (jI C 79 0).toInt.toNat 1100000 0 (by omega) (by rw [t_0]; omega) (by omega)
        unfold Sim at this ⊢
        unfold f_X11_award f_X12_award
        simp only [k_0, k_2398, p_isMember, p_isScheme, p_isMonth, in0, i_le, i_lt, i2l_toInt, Int32.reduceToInt, Int64.reduceToInt, t_0, t_l0, t_m40, t_lm40, m_I_sI, m_L_sI, m_R_sI, m_AI_sI, m_AL_sI, m_AD_sI, m_AR_sI, m_n_sI, m_I_sL, m_L_sL, m_R_sL, m_AI_sL, m_AL_sL, m_AD_sL, m_AR_sL, m_n_sL, m_I_sR, m_L_sR, m_R_sR, m_AI_sR, m_AL_sR, m_AD_sR, m_AR_sR, m_n_sR, m_I_rI, m_L_rI, m_R_rI, m_AI_rI, m_AL_rI, m_AD_rI, m_AR_rI, m_n_rI, m_I_rL, m_L_rL, m_R_rL, m_AI_rL, m_AL_rL, m_AD_rL, m_AR_rL, m_n_rL, m_I_rD, m_L_rD, m_R_rD, m_AI_rD, m_AL_rD, m_AD_rD, m_AR_rD, m_n_rD, m_I_rR, m_L_rR, m_R_rR, m_AI_rR, m_AL_rR, m_AD_rR, m_AR_rR, m_n_rR, true_and, and_true, and_false, false_and, and_self, if_true, if_false, ite_self, Nat.reduceEqDiff, reduceIte, Option.bind_some, jlet, jbd_some, jbd_ite, bind_ite]
        rw [if_neg (by omega), if_neg (by omega), if_neg (by omega), if_neg (by omega), if_neg (by omega), if_neg (by omega)]
        exact this
      · unfold Sim f_X11_award f_X12_award
        simp only [k_0, k_2398, p_isMember, p_isScheme, p_isMonth, in0, i_le, i_lt, i2l_toInt, Int32.reduceToInt, Int64.reduceToInt, t_0, t_l0, t_m40, t_lm40, m_I_sI, m_L_sI, m_R_sI, m_AI_sI, m_AL_sI, m_AD_sI, m_AR_sI, m_n_sI, m_I_sL, m_L_sL, m_R_sL, m_AI_sL, m_AL_sL, m_AD_sL, m_AR_sL, m_n_sL, m_I_sR, m_L_sR, m_R_sR, m_AI_sR, m_AL_sR, m_AD_sR, m_AR_sR, m_n_sR, m_I_rI, m_L_rI, m_R_rI, m_AI_rI, m_AL_rI, m_AD_rI, m_AR_rI, m_n_rI, m_I_rL, m_L_rL, m_R_rL, m_AI_rL, m_AL_rL, m_AD_rL, m_AR_rL, m_n_rL, m_I_rD, m_L_rD, m_R_rD, m_AI_rD, m_AL_rD, m_AD_rD, m_AR_rD, m_n_rD, m_I_rR, m_L_rR, m_R_rR, m_AI_rR, m_AL_rR, m_AD_rR, m_AR_rR, m_n_rR, true_and, and_true, and_false, false_and, and_self, if_true, if_false, ite_self, Nat.reduceEqDiff, reduceIte, Option.bind_some, jlet, jbd_some, jbd_ite, bind_ite]
        rw [if_neg (by omega), if_neg (by omega), if_pos (by omega), if_neg (by omega), if_neg (by omega), if_pos (by omega)]
        exact ⟨_, _, _, rfl, rfl, h.fr_self⟩
    · unfold Sim f_X11_award f_X12_award
      simp only [k_0, k_2398, p_isMember, p_isScheme, p_isMonth, in0, i_le, i_lt, i2l_toInt, Int32.reduceToInt, Int64.reduceToInt, t_0, t_l0, t_m40, t_lm40, m_I_sI, m_L_sI, m_R_sI, m_AI_sI, m_AL_sI, m_AD_sI, m_AR_sI, m_n_sI, m_I_sL, m_L_sL, m_R_sL, m_AI_sL, m_AL_sL, m_AD_sL, m_AR_sL, m_n_sL, m_I_sR, m_L_sR, m_R_sR, m_AI_sR, m_AL_sR, m_AD_sR, m_AR_sR, m_n_sR, m_I_rI, m_L_rI, m_R_rI, m_AI_rI, m_AL_rI, m_AD_rI, m_AR_rI, m_n_rI, m_I_rL, m_L_rL, m_R_rL, m_AI_rL, m_AL_rL, m_AD_rL, m_AR_rL, m_n_rL, m_I_rD, m_L_rD, m_R_rD, m_AI_rD, m_AL_rD, m_AD_rD, m_AR_rD, m_n_rD, m_I_rR, m_L_rR, m_R_rR, m_AI_rR, m_AL_rR, m_AD_rR, m_AR_rR, m_n_rR, true_and, and_true, and_false, false_and, and_self, if_true, if_false, ite_self, Nat.reduceEqDiff, reduceIte, Option.bind_some, jlet, jbd_some, jbd_ite, bind_ite]
      rw [if_neg (by omega), if_pos (by omega), if_neg (by omega), if_pos (by omega)]
      exact ⟨_, _, _, rfl, rfl, h.fr_self⟩
  · unfold Sim f_X11_award f_X12_award
    simp only [k_0, k_2398, p_isMember, p_isScheme, p_isMonth, in0, i_le, i_lt, i2l_toInt, Int32.reduceToInt, Int64.reduceToInt, t_0, t_l0, t_m40, t_lm40, m_I_sI, m_L_sI, m_R_sI, m_AI_sI, m_AL_sI, m_AD_sI, m_AR_sI, m_n_sI, m_I_sL, m_L_sL, m_R_sL, m_AI_sL, m_AL_sL, m_AD_sL, m_AR_sL, m_n_sL, m_I_sR, m_L_sR, m_R_sR, m_AI_sR, m_AL_sR, m_AD_sR, m_AR_sR, m_n_sR, m_I_rI, m_L_rI, m_R_rI, m_AI_rI, m_AL_rI, m_AD_rI, m_AR_rI, m_n_rI, m_I_rL, m_L_rL, m_R_rL, m_AI_rL, m_AL_rL, m_AD_rL, m_AR_rL, m_n_rL, m_I_rD, m_L_rD, m_R_rD, m_AI_rD, m_AL_rD, m_AD_rD, m_AR_rD, m_n_rD, m_I_rR, m_L_rR, m_R_rR, m_AI_rR, m_AL_rR, m_AD_rR, m_AR_rR, m_n_rR, true_and, and_true, and_false, false_and, and_self, if_true, if_false, ite_self, Nat.reduceEqDiff, reduceIte, Option.bind_some, jlet, jbd_some, jbd_ite, bind_ite]
    rw [if_pos (by omega), if_pos (by omega)]
    exact ⟨_, _, _, rfl, rfl, h.fr_self⟩

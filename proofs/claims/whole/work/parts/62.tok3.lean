/-! PURE: the class's next token, all of it; the reference's words -/
theorem next50_ok {e p : Nat} {S : jM} (h : tOp S e) (hi : jI S 39 608 = nI p) (hp : p ≤ e) : ∃ S', f_X7_next_50 608 S = some S' ∧ Fr pTk S S' ∧ tokAt (cB S) e p S' := by
  have h3 := h.2.2
  have hF : Fr pTk S (jsI S 41 608 (nI p)) := frTI (by omega)
  have hb := byte_c (h.f hF) (i := p) (by omega)
  have h39 : jI (jsI S 41 608 (nI p)) 39 608 = nI p := by simp only [m_I_sI, m_L_sI, m_R_sI, m_AI_sI, m_AL_sI, m_AD_sI, m_AR_sI, m_n_sI, m_I_sL, m_L_sL, m_R_sL, m_AI_sL, m_AL_sL, m_AD_sL, m_AR_sL, m_n_sL, m_I_sR, m_L_sR, m_R_sR, m_AI_sR, m_AL_sR, m_AD_sR, m_AR_sR, m_n_sR, m_I_rI, m_L_rI, m_R_rI, m_AI_rI, m_AL_rI, m_AD_rI, m_AR_rI, m_n_rI, m_I_rL, m_L_rL, m_R_rL, m_AI_rL, m_AL_rL, m_AD_rL, m_AR_rL, m_n_rL, m_I_rD, m_L_rD, m_R_rD, m_AI_rD, m_AL_rD, m_AD_rD, m_AR_rD, m_n_rD, m_I_rR, m_L_rR, m_R_rR, m_AI_rR, m_AL_rR, m_AD_rR, m_AR_rR, m_n_rR, true_and, and_true, and_false, false_and, and_self, if_true, if_false, ite_self, Nat.reduceEqDiff, reduceIte, obt, jlt, jbt, jbd_ite, bind_ite]; exact hi
  have h41 : jI (jsI S 41 608 (nI p)) 41 608 = nI p := by simp only [m_I_sI, m_L_sI, m_R_sI, m_AI_sI, m_AL_sI, m_AD_sI, m_AR_sI, m_n_sI, m_I_sL, m_L_sL, m_R_sL, m_AI_sL, m_AL_sL, m_AD_sL, m_AR_sL, m_n_sL, m_I_sR, m_L_sR, m_R_sR, m_AI_sR, m_AL_sR, m_AD_sR, m_AR_sR, m_n_sR, m_I_rI, m_L_rI, m_R_rI, m_AI_rI, m_AL_rI, m_AD_rI, m_AR_rI, m_n_rI, m_I_rL, m_L_rL, m_R_rL, m_AI_rL, m_AL_rL, m_AD_rL, m_AR_rL, m_n_rL, m_I_rD, m_L_rD, m_R_rD, m_AI_rD, m_AL_rD, m_AD_rD, m_AR_rD, m_n_rD, m_I_rR, m_L_rR, m_R_rR, m_AI_rR, m_AL_rR, m_AD_rR, m_AR_rR, m_n_rR, true_and, and_true, and_false, false_and, and_self, if_true, if_false, ite_self, Nat.reduceEqDiff, reduceIte, obt, jlt, jbt, jbd_ite, bind_ite]
  have h38 := (h.f hF).2.1
  have hid : ∀ o : Option jM, (o.bind fun S8 => some S8) = o := fun o => by cases o <;> rfl
  unfold f_X7_next_50
  rw [if_pos k_608, hi, jlt, h39, hb, obt, h38]
  rw [cB_f hF]
  by_cases c : p < e
  · rw [if_pos (by rw [nJ_lt (by omega) (by omega)]; exact c), if_pos c, hid, hid, hid]
    by_cases c1 : f_X7_isLetter (cB S p) = 0
    · rw [if_pos c1]
      by_cases c2 : f_X7_isDigit (cB S p) = 0
      · rw [if_pos c2]
        obtain ⟨S', g1, g2, g3⟩ := sgn_ok2 (h.f hF) h39 h41 c (by rw [cB_f hF]; exact c1) (by rw [cB_f hF]; exact c2)
        rw [cB_f hF] at g1 g3
        exact ⟨S', g1, hF.trans g2, g3⟩
      · rw [if_neg c2]
        obtain ⟨S', g1, g2, g3⟩ := dig_ok (h.f hF) h39 h41 c (by rw [cB_f hF]; exact c1) (by rw [cB_f hF]; exact c2)
        rw [cB_f hF] at g3
        exact ⟨S', g1, hF.trans g2, g3⟩
    · rw [if_neg c1]
      obtain ⟨S', g1, g2, g3⟩ := let_ok (h.f hF) h39 h41 c (by rw [cB_f hF]; exact c1)
      rw [cB_f hF] at g3
      exact ⟨S', g1, hF.trans g2, g3⟩
  · rw [if_neg (by rw [nJ_lt (by omega) (by omega)]; exact c)]
    refine ⟨_, rfl, hF.trans (frTI (by omega)), ?_⟩
    have ht : tkv (cB S) e p = (0, 0, 0, p) := by unfold tkv; rw [if_neg c]
    unfold tokAt
    rw [ht]
    simp only [m_I_sI, m_L_sI, m_R_sI, m_AI_sI, m_AL_sI, m_AD_sI, m_AR_sI, m_n_sI, m_I_sL, m_L_sL, m_R_sL, m_AI_sL, m_AL_sL, m_AD_sL, m_AR_sL, m_n_sL, m_I_sR, m_L_sR, m_R_sR, m_AI_sR, m_AL_sR, m_AD_sR, m_AR_sR, m_n_sR, m_I_rI, m_L_rI, m_R_rI, m_AI_rI, m_AL_rI, m_AD_rI, m_AR_rI, m_n_rI, m_I_rL, m_L_rL, m_R_rL, m_AI_rL, m_AL_rL, m_AD_rL, m_AR_rL, m_n_rL, m_I_rD, m_L_rD, m_R_rD, m_AI_rD, m_AL_rD, m_AD_rD, m_AR_rD, m_n_rD, m_I_rR, m_L_rR, m_R_rR, m_AI_rR, m_AL_rR, m_AD_rR, m_AR_rR, m_n_rR, true_and, and_true, and_false, false_and, and_self, if_true, if_false, ite_self, Nat.reduceEqDiff, reduceIte, obt, jlt, jbt, jbd_ite, bind_ite]
    exact ⟨hi, fun z => absurd z (by decide), fun z => absurd z (by decide)⟩
theorem skip_loop {e : Nat} : ∀ n fuel i S, tOp S e → jI S 39 608 = nI i → i + n = e → n < fuel → ∃ S', f_X7_next_0 fuel 608 S = f_X7_next_50 608 S' ∧ Fr pTk S S' ∧ jI S' 39 608 = nI (skB (cB S) e n i) := by
  intro n
  induction n with
  | zero =>
    intro fuel i S h hi h1 h2
    obtain ⟨f, rfl⟩ : ∃ f, fuel = f + 1 := ⟨fuel - 1, by omega⟩
    have h3 := h.2.2
    refine ⟨S, ?_, Fr.refl, hi⟩
    rw [f_X7_next_0, if_pos k_608, h.2.1, hi, if_pos (by rw [nJ_le (by omega) (by omega)]; omega)]
  | succ n ih =>
    intro fuel i S h hi h1 h2
    obtain ⟨f, rfl⟩ : ∃ f, fuel = f + 1 := ⟨fuel - 1, by omega⟩
    have h3 := h.2.2
    have hF : Fr pTk S (jsI S 39 608 (nI (i + 1))) := frTI (by omega)
    obtain ⟨S', g1, g2, g3⟩ := ih f (i + 1) _ (h.f hF) (by simp only [m_I_sI, m_L_sI, m_R_sI, m_AI_sI, m_AL_sI, m_AD_sI, m_AR_sI, m_n_sI, m_I_sL, m_L_sL, m_R_sL, m_AI_sL, m_AL_sL, m_AD_sL, m_AR_sL, m_n_sL, m_I_sR, m_L_sR, m_R_sR, m_AI_sR, m_AL_sR, m_AD_sR, m_AR_sR, m_n_sR, m_I_rI, m_L_rI, m_R_rI, m_AI_rI, m_AL_rI, m_AD_rI, m_AR_rI, m_n_rI, m_I_rL, m_L_rL, m_R_rL, m_AI_rL, m_AL_rL, m_AD_rL, m_AR_rL, m_n_rL, m_I_rD, m_L_rD, m_R_rD, m_AI_rD, m_AL_rD, m_AD_rD, m_AR_rD, m_n_rD, m_I_rR, m_L_rR, m_R_rR, m_AI_rR, m_AL_rR, m_AD_rR, m_AR_rR, m_n_rR, true_and, and_true, and_false, false_and, and_self, if_true, if_false, ite_self, Nat.reduceEqDiff, reduceIte, obt, jlt, jbt, jbd_ite, bind_ite]) (by omega) (by omega)
    rw [cB_f hF] at g3
    have hb := byte_c h (i := i) (by omega)
    rw [if_pos (show i < e by omega)] at hb
    have hst : f_X7_next_37 (f_X7_next_0 f) 608 S = f_X7_next_0 f 608 (jsI S 39 608 (nI (i + 1))) := by
      unfold f_X7_next_37
      rw [if_pos k_608, jlt, hi, nJ_1 (by omega)]
    rw [f_X7_next_0, if_pos k_608, h.2.1, hi, if_neg (by rw [nJ_le (by omega) (by omega)]; omega), hb, obt, obt, hst]
    unfold skB
    rw [if_pos (show i < e by omega)]
    by_cases c1 : cB S i = 32
    · rw [if_pos c1, if_pos c1]
      exact ⟨S', g1, hF.trans g2, g3⟩
    · rw [if_neg c1, if_neg c1]
      by_cases c2 : cB S i = 10
      · rw [if_pos c2, if_pos c2]
        exact ⟨S', g1, hF.trans g2, g3⟩
      · rw [if_neg c2, if_neg c2]
        exact ⟨S, rfl, Fr.refl, hi⟩
theorem next_ok {e i : Nat} {S : jM} (h : tOp S e) (hi : jI S 39 608 = nI i) (hie : i ≤ e) : ∃ S', f_X7_next_0 1100000 608 S = some S' ∧ Fr pTk S S' ∧ tokAt (cB S) e (skB (cB S) e (e - i) i) S' := by
  have h3 := h.2.2
  obtain ⟨S1, g1, g2, g3⟩ := skip_loop (e - i) 1100000 i S h hi (by omega) (by omega)
  obtain ⟨S2, q1, q2, q3⟩ := next50_ok (h.f g2) g3 (skB_le (cB S) e (e - i) i hie).2
  rw [cB_f g2] at q3
  exact ⟨S2, by rw [g1]; exact q1, g2.trans q2, q3⟩
theorem isL_eq (b : Int32) : f_X12_isLetter b = f_X7_isLetter b := rfl
theorem isD_eq (b : Int32) : f_X12_isFigure b = f_X7_isDigit b := rfl
theorem word_m (v : Int64) : f_X12_word v = tm (wd v) := by
  rw [wd_is]
  unfold f_X12_word
  by_cases c0 : v = (1650815860 : Int64)
  · rw [if_pos c0, if_pos c0.symm]; decide
  rw [if_neg c0, if_neg (show ¬ (1650815860 : Int64) = v from fun z => c0 z.symm)]
  by_cases c1 : v = (1651470958 : Int64)
  · rw [if_pos c1, if_pos c1.symm]; decide
  rw [if_neg c1, if_neg (show ¬ (1651470958 : Int64) = v from fun z => c1 z.symm)]
  by_cases c2 : v = (1667590508 : Int64)
  · rw [if_pos c2, if_pos c2.symm]; decide
  rw [if_neg c2, if_neg (show ¬ (1667590508 : Int64) = v from fun z => c2 z.symm)]
  by_cases c3 : v = (6578553 : Int64)
  · rw [if_pos c3, if_pos c3.symm]; decide
  rw [if_neg c3, if_neg (show ¬ (6578553 : Int64) = v from fun z => c3 z.symm)]
  by_cases c4 : v = (1701606245 : Int64)
  · rw [if_pos c4, if_pos c4.symm]; decide
  rw [if_neg c4, if_neg (show ¬ (1701606245 : Int64) = v from fun z => c4 z.symm)]
  by_cases c5 : v = (439905906546 : Int64)
  · rw [if_pos c5, if_pos c5.symm]; decide
  rw [if_neg c5, if_neg (show ¬ (439905906546 : Int64) = v from fun z => c5 z.symm)]
  by_cases c6 : v = (1718775661 : Int64)
  · rw [if_pos c6, if_pos c6.symm]; decide
  rw [if_neg c6, if_neg (show ¬ (1718775661 : Int64) = v from fun z => c6 z.symm)]
  by_cases c7 : v = (26982 : Int64)
  · rw [if_pos c7, if_pos c7.symm]; decide
  rw [if_neg c7, if_neg (show ¬ (26982 : Int64) = v from fun z => c7 z.symm)]
  by_cases c8 : v = (1785686382 : Int64)
  · rw [if_pos c8, if_pos c8.symm]; decide
  rw [if_neg c8, if_neg (show ¬ (1785686382 : Int64) = v from fun z => c8 z.symm)]
  by_cases c9 : v = (1818325876 : Int64)
  · rw [if_pos c9, if_pos c9.symm]; decide
  rw [if_neg c9, if_neg (show ¬ (1818325876 : Int64) = v from fun z => c9 z.symm)]
  by_cases c10 : v = (7103854 : Int64)
  · rw [if_pos c10, if_pos c10.symm]; decide
  rw [if_neg c10, if_neg (show ¬ (7103854 : Int64) = v from fun z => c10 z.symm)]
  by_cases c11 : v = (7168376 : Int64)
  · rw [if_pos c11, if_pos c11.symm]; decide
  rw [if_neg c11, if_neg (show ¬ (7168376 : Int64) = v from fun z => c11 z.symm)]
  by_cases c12 : v = (7170414 : Int64)
  · rw [if_pos c12, if_pos c12.symm]; decide
  rw [if_neg c12, if_neg (show ¬ (7170414 : Int64) = v from fun z => c12 z.symm)]
  by_cases c13 : v = (1852137842 : Int64)
  · rw [if_pos c13, if_pos c13.symm]; decide
  rw [if_neg c13, if_neg (show ¬ (1852137842 : Int64) = v from fun z => c13 z.symm)]
  by_cases c14 : v = (28518 : Int64)
  · rw [if_pos c14, if_pos c14.symm]; decide
  rw [if_neg c14, if_neg (show ¬ (28518 : Int64) = v from fun z => c14 z.symm)]
  by_cases c15 : v = (1919246700 : Int64)
  · rw [if_pos c15, if_pos c15.symm]; decide
  rw [if_neg c15, if_neg (show ¬ (1919246700 : Int64) = v from fun z => c15 z.symm)]
  by_cases c16 : v = (1919905652 : Int64)
  · rw [if_pos c16, if_pos c16.symm]; decide
  rw [if_neg c16, if_neg (show ¬ (1919905652 : Int64) = v from fun z => c16 z.symm)]
  by_cases c17 : v = (1920298085 : Int64)
  · rw [if_pos c17, if_pos c17.symm]; decide
  rw [if_neg c17, if_neg (show ¬ (1920298085 : Int64) = v from fun z => c17 z.symm)]
  by_cases c18 : v = (7566701 : Int64)
  · rw [if_pos c18, if_pos c18.symm]; decide
  rw [if_neg c18, if_neg (show ¬ (7566701 : Int64) = v from fun z => c18 z.symm)]
  by_cases c19 : v = (1952998766 : Int64)
  · rw [if_pos c19, if_pos c19.symm]; decide
  rw [if_neg c19, if_neg (show ¬ (1952998766 : Int64) = v from fun z => c19 z.symm)]
  by_cases c20 : v = (29807 : Int64)
  · rw [if_pos c20, if_pos c20.symm]; decide
  rw [if_neg c20, if_neg (show ¬ (29807 : Int64) = v from fun z => c20 z.symm)]
  by_cases c21 : v = (7631481 : Int64)
  · rw [if_pos c21, if_pos c21.symm]; decide
  rw [if_neg c21, if_neg (show ¬ (7631481 : Int64) = v from fun z => c21 z.symm)]
  by_cases c22 : v = (512853240933 : Int64)
  · rw [if_pos c22, if_pos c22.symm]; decide
  rw [if_neg c22, if_neg (show ¬ (512853240933 : Int64) = v from fun z => c22 z.symm)]
  by_cases c23 : v = (2003399784 : Int64)
  · rw [if_pos c23, if_pos c23.symm]; decide
  rw [if_neg c23, if_neg (show ¬ (2003399784 : Int64) = v from fun z => c23 z.symm)]
  by_cases c24 : v = (525688008563 : Int64)
  · rw [if_pos c24, if_pos c24.symm]; decide
  rw [if_neg c24, if_neg (show ¬ (525688008563 : Int64) = v from fun z => c24 z.symm)]
  decide

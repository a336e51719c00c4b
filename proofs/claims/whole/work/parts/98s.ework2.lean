/-! PURE: the evaluator: the class's work and the reference's case -/
theorem work_no {C : jM} {F : Nat} (hC : Lay C) (hF : isF F) (v : Int64) (who due day : Int32) : ∃ C', f_X10_work 811 F none v who due day C = some C' ∧ Fr (pBg F) C C' ∧ jI C' 7 F = 1 := by
  obtain ⟨Cf, b1, b2, b3, b4, b5⟩ := work_beg hC hF none v who due day
  have hFn := hF.n
  refine ⟨jsI Cf 7 F 1, ?_, b1.sI (by unfold pBg; omega), by simp only [m_I_sI, m_L_sI, m_R_sI, m_AI_sI, m_AL_sI, m_AD_sI, m_AR_sI, m_n_sI, m_I_sL, m_L_sL, m_R_sL, m_AI_sL, m_AL_sL, m_AD_sL, m_AR_sL, m_n_sL, m_I_sR, m_L_sR, m_R_sR, m_AI_sR, m_AL_sR, m_AD_sR, m_AR_sR, m_n_sR, m_I_rI, m_L_rI, m_R_rI, m_AI_rI, m_AL_rI, m_AD_rI, m_AR_rI, m_n_rI, m_I_rL, m_L_rL, m_R_rL, m_AI_rL, m_AL_rL, m_AD_rL, m_AR_rL, m_n_rL, m_I_rD, m_L_rD, m_R_rD, m_AI_rD, m_AL_rD, m_AD_rD, m_AR_rD, m_n_rD, m_I_rR, m_L_rR, m_R_rR, m_AI_rR, m_AL_rR, m_AD_rR, m_AR_rR, m_n_rR, true_and, and_true, and_false, false_and, and_self, if_true, if_false, ite_self, Nat.reduceEqDiff, reduceIte, obt, jlt, jbt, jbd_ite, bind_ite]⟩
  rw [b5, if_pos (show (none : Option Nat).isNone = true from rfl)]
  unfold f_X10_work_54
  rw [if_pos rfl, if_pos k_811, b2.1, obt, if_pos hF.k, jlt]
theorem work_ok {C R : jM} {F T t : Nat} (hC : Lay C) (hR : Lay R) (hF : isF F) (hT : isT T) (ht : t < 33) (hX : rX C T R t) (hP : rP C R) (hf : rF C R) (v : Int64) (who due day : Int32) : ∃ r0 : Int32, f_X8_ruleNamed T v C = some r0 ∧ f_X12_findRule 2398 (nI t) v R = some r0 ∧
    ((r0 = -1 ∧ ∃ C', f_X10_work 811 F (some T) v who due day C = some C' ∧ Fr (pBg F) C C' ∧ jI C' 7 F = 1) ∨
     ∃ r, r < 24 ∧ r0 = nI r ∧ ∃ C' R' x, f_X10_work 811 F (some T) v who due day C = some C' ∧ f_X12_beginCase 2398 (nI t) r0 who due day R = some (x, R') ∧ Fr (pWk F) C C' ∧ Fr qWk R R' ∧ (∀ s, s < 226 → sS R R' s) ∧ CW F r (jI C 31 1).toInt x C' R') := by
  obtain ⟨np, nr, hnp, hnr, h45, h49, h15, hK, ru, hru⟩ := hX
  have hFn := hF.n
  have hTb := hT.2
  obtain ⟨Cf, b1, b2, b3, b4, b5⟩ := work_beg hC hF (some T) v who due day
  have hLf : Lay Cf := hC.frBg hF b1
  obtain ⟨r0, e1, e2, e3⟩ := rule_lk hC hR hT.1 ht hnr h49 h15 (fun r hr => (hru r hr).1) v
  obtain ⟨r1, f1, f2, -⟩ := rule_lk hLf hR hT.1 ht hnr (by rw [b1.i (by unfold pBg; omega)]; exact h49) h15 (fun r hr => by rw [b1.al (by unfold pBg; omega)]; exact (hru r hr).1) v
  have er : r1 = r0 := by rw [e2] at f2; injection f2 with f2; exact f2.symm
  subst er
  have hw : f_X10_work 811 F (some T) v who due day C = f_X10_work_54 811 r1 Cf := by
    rw [b5, if_neg (show ¬ (some T).isNone = true from fun z => absurd (show false = true from z) (by decide)), obt, if_pos hT.1, f1, obt]
  refine ⟨r1, e1, e2, ?_⟩
  rcases e3 with e3 | ⟨i, hi, e3, -⟩
  · refine .inl ⟨e3, jsI Cf 7 F 1, ?_, b1.sI (by unfold pBg; omega), by simp only [m_I_sI, m_L_sI, m_R_sI, m_AI_sI, m_AL_sI, m_AD_sI, m_AR_sI, m_n_sI, m_I_sL, m_L_sL, m_R_sL, m_AI_sL, m_AL_sL, m_AD_sL, m_AR_sL, m_n_sL, m_I_sR, m_L_sR, m_R_sR, m_AI_sR, m_AL_sR, m_AD_sR, m_AR_sR, m_n_sR, m_I_rI, m_L_rI, m_R_rI, m_AI_rI, m_AL_rI, m_AD_rI, m_AR_rI, m_n_rI, m_I_rL, m_L_rL, m_R_rL, m_AI_rL, m_AL_rL, m_AD_rL, m_AR_rL, m_n_rL, m_I_rD, m_L_rD, m_R_rD, m_AI_rD, m_AL_rD, m_AD_rD, m_AR_rD, m_n_rD, m_I_rR, m_L_rR, m_R_rR, m_AI_rR, m_AL_rR, m_AD_rR, m_AR_rR, m_n_rR, true_and, and_true, and_false, false_and, and_self, if_true, if_false, ite_self, Nat.reduceEqDiff, reduceIte, obt, jlt, jbt, jbd_ite, bind_ite]⟩
    rw [hw, e3]
    unfold f_X10_work_54
    rw [if_pos rfl, if_pos k_811, b2.1, obt, if_pos hF.k, jlt]
  · obtain ⟨C', R', x, g1, g2, g3, g4, g5, g6⟩ := work_r hC hR hF hT ht hnp hnr h45 h49 h15 hK hru hP hf who due day hi b1 b2 b3 b4
    refine .inr ⟨i, by omega, e3, C', R', x, ?_, ?_, g3, g4, g5, g6⟩
    · rw [hw, e3]; exact g1
    · rw [e3]; exact g2

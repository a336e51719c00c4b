/-! PURE: a DUE is worked, in either -/
theorem wd_ok {C R : jM} {F T t : Nat} (hC : Lay C) (hR : Lay R) (hF : isF F) (hT : isT T) (ht : t < 33) (hX : rX C T R t) (hP : rP C R) (hf : rF C R) (who due day : Int32) : ∃ C2 R2, f_X10_work 811 F (some T) 6583653 who due day C = some C2 ∧ f_X12_workDue 2398 (nI t) who due day R = some (jI C2 7 F, R2) ∧ Fr (pWk F) C C2 ∧ Fr qGa R R2 ∧ (∀ f, 150 ≤ f → f ≤ 155 → jI R2 f 2398 = jI R f 2398) ∧ jAI R2 2437 = jAI R 2437 ∧ (∀ s, s < 226 → sS R R2 s) ∧
    (jI C2 7 F = 0 → ∃ r s, r < 24 ∧ jI C2 6 F = nI r ∧ jI R2 156 2398 = nI s ∧ s < 1500 ∧ (s ≤ 200 ∨ 226 ≤ s) ∧ VR (jI C 31 1).toInt C2 (F + 5 + 2 * r) R2 s) := by
  obtain ⟨r0, x1, x2, x3⟩ := work_ok hC hR hF hT ht hX hP hf 6583653 who due day
  have ewd : f_X12_workDue 2398 (nI t) who due day R = f_X12_workDue_16 2398 (nI t) who due day r0 R := by
    unfold f_X12_workDue
    rw [if_pos (by rw [i_le, t_0, nI_toInt (by omega)]; omega), if_pos k_2398, x2, obt]
  rcases x3 with ⟨x3, C2, q1, q2, q3⟩ | ⟨r, hr, x3, C2, Ra, x, y1, y2, y3, y4, y5, y6⟩
  · refine ⟨C2, R, q1, ?_, q2.mono (fun _ _ _ z => .inl z), Fr.refl, fun _ _ _ => rfl, rfl, fun _ _ => sS.refl, fun z => absurd (q3.symm.trans z) (by decide)⟩
    rw [ewd, x3, q3]
    unfold f_X12_workDue_16
    rw [if_neg (by decide)]
  · have e156 : Fr (fun t f a => t = 0 ∧ f = 156 ∧ a = 2398) Ra (jsI Ra 156 2398 x) := (Fr.refl).sI (by omega)
    have v156 : jI (jsI Ra 156 2398 x) 156 2398 = x := by simp only [m_I_sI, m_L_sI, m_R_sI, m_AI_sI, m_AL_sI, m_AD_sI, m_AR_sI, m_n_sI, m_I_sL, m_L_sL, m_R_sL, m_AI_sL, m_AL_sL, m_AD_sL, m_AR_sL, m_n_sL, m_I_sR, m_L_sR, m_R_sR, m_AI_sR, m_AL_sR, m_AD_sR, m_AR_sR, m_n_sR, m_I_rI, m_L_rI, m_R_rI, m_AI_rI, m_AL_rI, m_AD_rI, m_AR_rI, m_n_rI, m_I_rL, m_L_rL, m_R_rL, m_AI_rL, m_AL_rL, m_AD_rL, m_AR_rL, m_n_rL, m_I_rD, m_L_rD, m_R_rD, m_AI_rD, m_AL_rD, m_AD_rD, m_AR_rD, m_n_rD, m_I_rR, m_L_rR, m_R_rR, m_AI_rR, m_AL_rR, m_AD_rR, m_AR_rR, m_n_rR, true_and, and_true, and_false, false_and, and_self, if_true, if_false, ite_self, Nat.reduceEqDiff, reduceIte, obt, jlt, jbt, jbd_ite, bind_ite]
    have s156 : ∀ s, sS Ra (jsI Ra 156 2398 x) s := fun s => e156.sS (fun a h1 h2 => by omega) s
    obtain ⟨w, p, sc, hEd, h6, hcw⟩ := y6
    have p226 := hEd.2.2.2.1
    have h400 := hEd.1.2.2
    refine ⟨C2, jsI Ra 156 2398 x, y1, ?_, y3, (y4.mono (fun t f a z => qWk_G z)).trans (e156.mono (fun t f a z => by unfold qGa; omega)), fun f z1 z2 => by rw [e156.i (by omega), y4.i (by unfold qWk qBg qW; omega)], by rw [e156.ai (by omega), y4.ai (by unfold qWk qBg qW; omega)], fun s hs => (y5 s hs).trans (s156 s), fun z => ?_⟩
    · rw [ewd]
      unfold f_X12_workDue_16
      rw [if_pos (by rw [x3, i_le, t_0, nI_toInt (by omega)]; omega), if_pos k_2398, y2, jbt, jlt, v156]
      rcases hcw with ⟨ok, s, s2, s3, s4⟩ | ⟨z1, c, z2⟩
      · rw [if_pos (by rw [s3, i_le, t_0, nI_toInt (by omega)]; omega), ok.1]
      · subst z1
        rw [if_neg (by decide), e156.i (by omega), z2.2.2.1, z2.2.1]
    · rcases hcw with ⟨ok, s, s2, s3, s4⟩ | ⟨z1, c, z2⟩
      · exact ⟨r, s, hr, h6, by rw [v156]; exact s3, by omega, s2.2, s4.c sP.refl sP.refl (s156 s)⟩
      · have h1 := z2.1
        rw [← z2.2.1, z, t_0] at h1
        exact absurd h1 (by omega)

/-! PURE: one month's due -/
theorem Rel.case {C R C' R' : jM} {F : Nat} (h : Rel C R) (hF : isF F) (hFn : F ≠ 2018) (hC : Fr (pWk F) C C') (hR : Fr qGa R R') (hq : ∀ f, 150 ≤ f → f ≤ 155 → jI R' f 2398 = jI R f 2398) (h37 : jAI R' 2437 = jAI R 2437) (hs : ∀ s, s < 225 → sS R R' s) : Rel C' R' ∧ Fr pC C C' ∧ Fr pR R R' := by
  have hFF := hF.n
  have hff : F = 2071 ∨ F = 2124 := by unfold isF at hF; omega
  have e31 : jI C' 31 1 = jI C 31 1 := hC.i (by unfold pWk pBg pW; omega)
  refine Rel.gen h (hC.mono (fun t f a z => pWk_G hF z)) hR (fun s h1 h2 => hs s (by omega)) ?_ ?_
  · have hd := h.D
    unfold rD at *
    rw [e31]
    exact hd.c (hC.sP (fun t f => by unfold pWk pBg pW; omega)) (hC.sP (fun t f => by unfold pWk pBg pW; omega)) (hs 0 (by omega))
  · have hcS : ∀ a, 2018 ≤ a → a < 2071 → sP C C' a := fun a h1 h2 => hC.sP (fun t f => by unfold pWk pBg pW; omega)
    obtain ⟨s1, s2, s3, s4, s5, s6, s7⟩ := h.S
    have c0 := hcS 2018 (by omega) (by omega)
    refine ⟨by rw [c0.1, hq 150 (by omega) (by omega)]; exact s1, by rw [c0.1, hq 151 (by omega) (by omega)]; exact s2, by rw [c0.1, hq 152 (by omega) (by omega)]; exact s3, by rw [c0.1, hq 153 (by omega) (by omega)]; exact s4, by rw [c0.1, hq 154 (by omega) (by omega)]; exact s5, by rw [c0.1]; exact s6, fun k hk => ?_⟩
    rw [c0.1] at hk
    obtain ⟨r, r1, r2, r3, r4, r5⟩ := s7 k hk
    have c1 := (hcS 2019 (by omega) (by omega)).2.2.1
    have c3 := (hcS 2021 (by omega) (by omega)).2.2.1
    refine ⟨r, r1, by rw [c3]; exact r2, by rw [c1]; exact r3, by rw [h37, c1]; exact r4, fun z => ?_⟩
    rw [c1] at z
    rw [e31]
    exact (r5 z).c (hcS _ (by omega) (by omega)) (hcS _ (by omega) (by omega)) (hs _ (by omega))
/-- what a month comes to -/
def dueV (x : Int32) (R : jM) : Prop := (x = -1 ∧ jI R 176 2398 = 1) ∨ (0 ≤ x.toInt ∧ x.toInt ≤ 1000000000 ∧ jI R 176 2398 = 0)
theorem due_49 {R : jM} : f_X12_dueOf_49 2398 2398 R = some (0, jsI R 176 2398 1) := by
  have e : jI (jsI R 176 2398 1) 176 2398 = 1 := by simp only [m_I_sI, m_L_sI, m_R_sI, m_AI_sI, m_AL_sI, m_AD_sI, m_AR_sI, m_n_sI, m_I_sL, m_L_sL, m_R_sL, m_AI_sL, m_AL_sL, m_AD_sL, m_AR_sL, m_n_sL, m_I_sR, m_L_sR, m_R_sR, m_AI_sR, m_AL_sR, m_AD_sR, m_AR_sR, m_n_sR, m_I_rI, m_L_rI, m_R_rI, m_AI_rI, m_AL_rI, m_AD_rI, m_AR_rI, m_n_rI, m_I_rL, m_L_rL, m_R_rL, m_AI_rL, m_AL_rL, m_AD_rL, m_AR_rL, m_n_rL, m_I_rD, m_L_rD, m_R_rD, m_AI_rD, m_AL_rD, m_AD_rD, m_AR_rD, m_n_rD, m_I_rR, m_L_rR, m_R_rR, m_AI_rR, m_AL_rR, m_AD_rR, m_AR_rR, m_n_rR, true_and, and_true, and_false, false_and, and_self, if_true, if_false, ite_self, Nat.reduceEqDiff, reduceIte, obt, jlt, jbt, jbd_ite, bind_ite]
  unfold f_X12_dueOf_49 f_X12_dueOf_54
  rw [if_pos k_2398, if_pos (by decide), jlt, if_pos k_2398, e, if_neg (by decide)]

/-! PURE: the evaluator: a case is worked -/
def pWk (F t f a : Nat) : Prop := pBg F t f a ∨ pW F t f a
def qWk (t f a : Nat) : Prop := qBg t f a ∨ qW t f a
/-- a case, behind its work: the VALUE is at x, or it failed -/
def CW (F r : Nat) (n : Int) (x : Int32) (C R : jM) : Prop := ∃ w p sc, ED F n w p sc C R ∧ jI C 6 F = nI r ∧ ((OKS F C R ∧ ∃ s, (s < p ∧ (s ≤ 200 ∨ 226 ≤ s)) ∧ x = nI s ∧ VR n C (F + 5 + 2 * r) R s) ∨ (x = -1 ∧ ∃ c, FL F c C R))
theorem qEr_W {t f a : Nat} (h : qEr t f a) : qW t f a := by unfold qEr at h; unfold qW; omega
theorem work_r {C R : jM} {F T t np nr r : Nat} {ru : Nat → Nat × Nat × Nat} (hC : Lay C) (hR : Lay R) (hF : isF F) (hT : isT T) (ht : t < 33) (hnp : np ≤ 300) (hnr : nr ≤ 24) (h45 : jI C 45 T = nI np) (h49 : jI C 49 T = nI nr) (h15 : jAI R 2415 t = nI nr) (hK : ∀ k, k < np → rK C T R t k)
    (hru : ∀ r, r < nr → jAL C (T + 4) r = jAL R 2416 (24 * t + r) ∧ (ru r).1 ≤ 300 ∧ (ru r).2.2 ≤ np ∧ ∃ k : Nat, jAI C (T + 5) r = nI k ∧ jAI R 2417 (24 * t + r) = nI (301 * t + k) ∧ tOK (jAI C (T + 1)) (jAL C (T + 2)) (jAI C (T + 3)) ru nr (ru r).2.1 (ru r).1 (fun _ => False) (ru r).2.1 (ru r).2.2 k) (hP : rP C R) (hf : rF C R) (who due day : Int32) (hr : r < nr)
    {Cf : jM} (b1 : Fr (pBg F) C Cf) (b2 : jR Cf 64 811 = some F ∧ jR Cf 65 811 = some T ∧ jI Cf 66 811 = who ∧ jI Cf 67 811 = due ∧ jI Cf 68 811 = day) (b3 : jI Cf 6 F = 0 ∧ jI Cf 7 F = 0 ∧ jI Cf 8 F = -1 ∧ jI Cf 9 F = 0 ∧ jI Cf 10 F = 0 ∧ jI Cf 11 F = 0 ∧ jI Cf 16 F = 0) (b4 : ∀ j, j < 24 → jAI Cf (F + 1) j = -1) :
    ∃ C' R' x, f_X10_work_54 811 (nI r) Cf = some C' ∧ f_X12_beginCase 2398 (nI t) (nI r) who due day R = some (x, R') ∧ Fr (pWk F) C C' ∧ Fr qWk R R' ∧ (∀ s, s < 226 → sS R R' s) ∧ CW F r (jI C 31 1).toInt x C' R' := by
  have hFn := hF.n
  have hT6 := hT.1
  have hTb := hT.2
  have hr24 : r < 24 := by omega
  obtain ⟨-, u1, u2, kr, u3, u4, u5⟩ := hru r hr
  have bnd : (ru r).2.1 ≤ kr ∧ kr < (ru r).2.2 ∧ 0 < (ru r).1 := by
    cases hd : (ru r).1 with
    | zero => rw [hd] at u5; exact absurd u5 (fun z => z)
    | succ d0 => rw [hd] at u5; exact ⟨u5.1, u5.2.1, by omega⟩
  -- the class begins
  have hB : Fr (pBg F) Cf (jsI (jsI (jsI Cf 6 F (nI r)) 60 811 0) 62 811 0) := (((Fr.refl).sI (by unfold pBg; omega)).sI (by unfold pBg; omega)).sI (by unfold pBg; omega)
  have hLB : Lay (jsI (jsI (jsI Cf 6 F (nI r)) 60 811 0) 62 811 0) := hC.frBg hF (b1.trans hB)
  have cr : (nI r).toNatClampNeg = r := nJ_cl (by omega)
  have eT5 : jAI (jsI (jsI (jsI Cf 6 F (nI r)) 60 811 0) 62 811 0) (T + 5) r = nI kr := by
    have : jAI Cf (T + 5) = jAI C (T + 5) := b1.ai (by unfold pBg; omega)
    show jAI Cf (T + 5) r = _
    rw [this]; exact u3
  have l65 : jR (jsI (jsI (jsI Cf 6 F (nI r)) 60 811 0) 62 811 0) 65 811 = some T := b2.2.1
  have l45 : jI (jsI (jsI (jsI Cf 6 F (nI r)) 60 811 0) 62 811 0) 45 T = nI np := by
    simp only [m_I_sI, m_L_sI, m_R_sI, m_AI_sI, m_AL_sI, m_AD_sI, m_AR_sI, m_n_sI, m_I_sL, m_L_sL, m_R_sL, m_AI_sL, m_AL_sL, m_AD_sL, m_AR_sL, m_n_sL, m_I_sR, m_L_sR, m_R_sR, m_AI_sR, m_AL_sR, m_AD_sR, m_AR_sR, m_n_sR, m_I_rI, m_L_rI, m_R_rI, m_AI_rI, m_AL_rI, m_AD_rI, m_AR_rI, m_n_rI, m_I_rL, m_L_rL, m_R_rL, m_AI_rL, m_AL_rL, m_AD_rL, m_AR_rL, m_n_rL, m_I_rD, m_L_rD, m_R_rD, m_AI_rD, m_AL_rD, m_AD_rD, m_AR_rD, m_n_rD, m_I_rR, m_L_rR, m_R_rR, m_AI_rR, m_AL_rR, m_AD_rR, m_AR_rR, m_n_rR, true_and, and_true, and_false, false_and, and_self, if_true, if_false, ite_self, Nat.reduceEqDiff, reduceIte, obt, jlt, jbt, jbd_ite, bind_ite]
    rw [b1.i (by unfold pBg; omega)]; exact h45
  have a5 : jA (T + 5) 13 (nI r) = true := jA_n (kd_text hT6).2.2.2.2.1 (by rw [(kd_text hT6).2.2.2.2.2]; omega) (by omega)
  have hent : f_X10_enter 811 (nI kr) (nI r) (jsI (jsI (jsI Cf 6 F (nI r)) 60 811 0) 62 811 0) = some (psh 0 kr 0 r (jsI (jsI (jsI Cf 6 F (nI r)) 60 811 0) 62 811 0)) := enter_ok hLB l65 hT6 l45 hnp (by omega) (by simp only [m_I_sI, m_L_sI, m_R_sI, m_AI_sI, m_AL_sI, m_AD_sI, m_AR_sI, m_n_sI, m_I_sL, m_L_sL, m_R_sL, m_AI_sL, m_AL_sL, m_AD_sL, m_AR_sL, m_n_sL, m_I_sR, m_L_sR, m_R_sR, m_AI_sR, m_AL_sR, m_AD_sR, m_AR_sR, m_n_sR, m_I_rI, m_L_rI, m_R_rI, m_AI_rI, m_AL_rI, m_AD_rI, m_AR_rI, m_n_rI, m_I_rL, m_L_rL, m_R_rL, m_AI_rL, m_AL_rL, m_AD_rL, m_AR_rL, m_n_rL, m_I_rD, m_L_rD, m_R_rD, m_AI_rD, m_AL_rD, m_AD_rD, m_AR_rD, m_n_rD, m_I_rR, m_L_rR, m_R_rR, m_AI_rR, m_AL_rR, m_AD_rR, m_AR_rR, m_n_rR, true_and, and_true, and_false, false_and, and_self, if_true, if_false, ite_self, Nat.reduceEqDiff, reduceIte, obt, jlt, jbt, jbd_ite, bind_ite]; rfl) (by omega) (by simp only [m_I_sI, m_L_sI, m_R_sI, m_AI_sI, m_AL_sI, m_AD_sI, m_AR_sI, m_n_sI, m_I_sL, m_L_sL, m_R_sL, m_AI_sL, m_AL_sL, m_AD_sL, m_AR_sL, m_n_sL, m_I_sR, m_L_sR, m_R_sR, m_AI_sR, m_AL_sR, m_AD_sR, m_AR_sR, m_n_sR, m_I_rI, m_L_rI, m_R_rI, m_AI_rI, m_AL_rI, m_AD_rI, m_AR_rI, m_n_rI, m_I_rL, m_L_rL, m_R_rL, m_AI_rL, m_AL_rL, m_AD_rL, m_AR_rL, m_n_rL, m_I_rD, m_L_rD, m_R_rD, m_AI_rD, m_AL_rD, m_AD_rD, m_AR_rD, m_n_rD, m_I_rR, m_L_rR, m_R_rR, m_AI_rR, m_AL_rR, m_AD_rR, m_AR_rR, m_n_rR, true_and, and_true, and_false, false_and, and_self, if_true, if_false, ite_self, Nat.reduceEqDiff, reduceIte, obt, jlt, jbt, jbd_ite, bind_ite]; rfl)
  have e54 : f_X10_work_54 811 (nI r) Cf = f_X10_work_109 1100000 811 (nI r) (nI 0) (psh 0 kr 0 r (jsI (jsI (jsI Cf 6 F (nI r)) 60 811 0) 62 811 0)) := by
    have nm : ¬ nI r = -1 := fun z => by
      have := congrArg Int32.toInt z
      rw [nI_toInt (by omega)] at this
      exact absurd this (by have : (-1 : Int32).toInt = -1 := by decide
                            omega)
    unfold f_X10_work_54
    rw [if_neg nm, if_pos k_811, b2.1, obt, if_pos hF.k, jlt, jlt, jlt, l65, obt, if_pos hT6, (hLB.2.2.2.1 T hT6).2.2.2.2, obt, if_pos a5, cr, eT5, hent, obt]
    rfl
  have hP1 : Fr (pBg F) Cf (psh 0 kr 0 r (jsI (jsI (jsI Cf 6 F (nI r)) 60 811 0) 62 811 0)) := ((((hB.rI (by unfold pBg; omega)).rI (by unfold pBg; omega)).rI (by unfold pBg; omega)).rI (by unfold pBg; omega)).sI (by unfold pBg; omega)
  have hC1 : Fr (pBg F) C (psh 0 kr 0 r (jsI (jsI (jsI Cf 6 F (nI r)) 60 811 0) 62 811 0)) := b1.trans hP1
  have c6 : jI (psh 0 kr 0 r (jsI (jsI (jsI Cf 6 F (nI r)) 60 811 0) 62 811 0)) 6 F = nI r := by unfold psh; simp only [m_I_sI, m_L_sI, m_R_sI, m_AI_sI, m_AL_sI, m_AD_sI, m_AR_sI, m_n_sI, m_I_sL, m_L_sL, m_R_sL, m_AI_sL, m_AL_sL, m_AD_sL, m_AR_sL, m_n_sL, m_I_sR, m_L_sR, m_R_sR, m_AI_sR, m_AL_sR, m_AD_sR, m_AR_sR, m_n_sR, m_I_rI, m_L_rI, m_R_rI, m_AI_rI, m_AL_rI, m_AD_rI, m_AR_rI, m_n_rI, m_I_rL, m_L_rL, m_R_rL, m_AI_rL, m_AL_rL, m_AD_rL, m_AR_rL, m_n_rL, m_I_rD, m_L_rD, m_R_rD, m_AI_rD, m_AL_rD, m_AD_rD, m_AR_rD, m_n_rD, m_I_rR, m_L_rR, m_R_rR, m_AI_rR, m_AL_rR, m_AD_rR, m_AR_rR, m_n_rR, true_and, and_true, and_false, false_and, and_self, if_true, if_false, ite_self, Nat.reduceEqDiff, reduceIte, obt, jlt, jbt, jbd_ite, bind_ite]
  have cO : ∀ g, g ≠ 6 → jI (psh 0 kr 0 r (jsI (jsI (jsI Cf 6 F (nI r)) 60 811 0) 62 811 0)) g F = jI Cf g F := fun g hg => by
    unfold psh; simp only [m_I_sI, m_L_sI, m_R_sI, m_AI_sI, m_AL_sI, m_AD_sI, m_AR_sI, m_n_sI, m_I_sL, m_L_sL, m_R_sL, m_AI_sL, m_AL_sL, m_AD_sL, m_AR_sL, m_n_sL, m_I_sR, m_L_sR, m_R_sR, m_AI_sR, m_AL_sR, m_AD_sR, m_AR_sR, m_n_sR, m_I_rI, m_L_rI, m_R_rI, m_AI_rI, m_AL_rI, m_AD_rI, m_AR_rI, m_n_rI, m_I_rL, m_L_rL, m_R_rL, m_AI_rL, m_AL_rL, m_AD_rL, m_AR_rL, m_n_rL, m_I_rD, m_L_rD, m_R_rD, m_AI_rD, m_AL_rD, m_AD_rD, m_AR_rD, m_n_rD, m_I_rR, m_L_rR, m_R_rR, m_AI_rR, m_AL_rR, m_AD_rR, m_AR_rR, m_n_rR]; rw [if_neg (by omega), if_neg (by omega), if_neg (by omega), if_neg (by omega)]
  have c62 : jI (psh 0 kr 0 r (jsI (jsI (jsI Cf 6 F (nI r)) 60 811 0) 62 811 0)) 62 811 = nI 0 := by unfold psh; simp only [m_I_sI, m_L_sI, m_R_sI, m_AI_sI, m_AL_sI, m_AD_sI, m_AR_sI, m_n_sI, m_I_sL, m_L_sL, m_R_sL, m_AI_sL, m_AL_sL, m_AD_sL, m_AR_sL, m_n_sL, m_I_sR, m_L_sR, m_R_sR, m_AI_sR, m_AL_sR, m_AD_sR, m_AR_sR, m_n_sR, m_I_rI, m_L_rI, m_R_rI, m_AI_rI, m_AL_rI, m_AD_rI, m_AR_rI, m_n_rI, m_I_rL, m_L_rL, m_R_rL, m_AI_rL, m_AL_rL, m_AD_rL, m_AR_rL, m_n_rL, m_I_rD, m_L_rD, m_R_rD, m_AI_rD, m_AL_rD, m_AD_rD, m_AR_rD, m_n_rD, m_I_rR, m_L_rR, m_R_rR, m_AI_rR, m_AL_rR, m_AD_rR, m_AR_rR, m_n_rR, true_and, and_true, and_false, false_and, and_self, if_true, if_false, ite_self, Nat.reduceEqDiff, reduceIte, obt, jlt, jbt, jbd_ite, bind_ite]; rfl
  have cW : ∀ g, (g = 66 ∨ g = 67 ∨ g = 68) → jI (psh 0 kr 0 r (jsI (jsI (jsI Cf 6 F (nI r)) 60 811 0) 62 811 0)) g 811 = jI Cf g 811 := fun g hg => by
    unfold psh; simp only [m_I_sI, m_L_sI, m_R_sI, m_AI_sI, m_AL_sI, m_AD_sI, m_AR_sI, m_n_sI, m_I_sL, m_L_sL, m_R_sL, m_AI_sL, m_AL_sL, m_AD_sL, m_AR_sL, m_n_sL, m_I_sR, m_L_sR, m_R_sR, m_AI_sR, m_AL_sR, m_AD_sR, m_AR_sR, m_n_sR, m_I_rI, m_L_rI, m_R_rI, m_AI_rI, m_AL_rI, m_AD_rI, m_AR_rI, m_n_rI, m_I_rL, m_L_rL, m_R_rL, m_AI_rL, m_AL_rL, m_AD_rL, m_AR_rL, m_n_rL, m_I_rD, m_L_rD, m_R_rD, m_AI_rD, m_AL_rD, m_AD_rD, m_AR_rD, m_n_rD, m_I_rR, m_L_rR, m_R_rR, m_AI_rR, m_AL_rR, m_AD_rR, m_AR_rR, m_n_rR]; rw [if_neg (by omega), if_neg (by omega), if_neg (by omega), if_neg (by omega)]
  have c64 : jR (psh 0 kr 0 r (jsI (jsI (jsI Cf 6 F (nI r)) 60 811 0) 62 811 0)) 64 811 = some F := b2.1
  have c65 : jR (psh 0 kr 0 r (jsI (jsI (jsI Cf 6 F (nI r)) 60 811 0) 62 811 0)) 65 811 = some T := b2.2.1
  have cF1 : ∀ j, j < 24 → jAI (psh 0 kr 0 r (jsI (jsI (jsI Cf 6 F (nI r)) 60 811 0) 62 811 0)) (F + 1) j = -1 := fun j hj => by
    unfold psh; simp only [m_I_sI, m_L_sI, m_R_sI, m_AI_sI, m_AL_sI, m_AD_sI, m_AR_sI, m_n_sI, m_I_sL, m_L_sL, m_R_sL, m_AI_sL, m_AL_sL, m_AD_sL, m_AR_sL, m_n_sL, m_I_sR, m_L_sR, m_R_sR, m_AI_sR, m_AL_sR, m_AD_sR, m_AR_sR, m_n_sR, m_I_rI, m_L_rI, m_R_rI, m_AI_rI, m_AL_rI, m_AD_rI, m_AR_rI, m_n_rI, m_I_rL, m_L_rL, m_R_rL, m_AI_rL, m_AL_rL, m_AD_rL, m_AR_rL, m_n_rL, m_I_rD, m_L_rD, m_R_rD, m_AI_rD, m_AL_rD, m_AD_rD, m_AR_rD, m_n_rD, m_I_rR, m_L_rR, m_R_rR, m_AI_rR, m_AL_rR, m_AD_rR, m_AR_rR, m_n_rR]; rw [if_neg (by omega), if_neg (by omega), if_neg (by omega), if_neg (by omega)]; exact b4 j hj
  have top1 : TOP 1 kr 0 0 r (psh 0 kr 0 r (jsI (jsI (jsI Cf 6 F (nI r)) 60 811 0) 62 811 0)) := by
    unfold TOP psh
    refine ⟨?_, ⟨by omega, by omega⟩, ?_, ?_, ?_, ?_⟩ <;> simp only [m_I_sI, m_L_sI, m_R_sI, m_AI_sI, m_AL_sI, m_AD_sI, m_AR_sI, m_n_sI, m_I_sL, m_L_sL, m_R_sL, m_AI_sL, m_AL_sL, m_AD_sL, m_AR_sL, m_n_sL, m_I_sR, m_L_sR, m_R_sR, m_AI_sR, m_AL_sR, m_AD_sR, m_AR_sR, m_n_sR, m_I_rI, m_L_rI, m_R_rI, m_AI_rI, m_AL_rI, m_AD_rI, m_AR_rI, m_n_rI, m_I_rL, m_L_rL, m_R_rL, m_AI_rL, m_AL_rL, m_AD_rL, m_AR_rL, m_n_rL, m_I_rD, m_L_rD, m_R_rD, m_AI_rD, m_AL_rD, m_AD_rD, m_AR_rD, m_n_rD, m_I_rR, m_L_rR, m_R_rR, m_AI_rR, m_AL_rR, m_AD_rR, m_AR_rR, m_n_rR, upd_if, Nat.sub_self, true_and, and_true, and_false, false_and, and_self, if_true, if_false, ite_self, Nat.reduceEqDiff, reduceIte, obt, jlt, jbt, jbd_ite, bind_ite]
    rfl
  rw [e54]
  generalize psh 0 kr 0 r (jsI (jsI (jsI Cf 6 F (nI r)) 60 811 0) 62 811 0) = C1 at *
  -- the reference begins
  have hR0 : Fr qBg R (jsI (jsI (jsI (jsI (jsI (jsI (jsI (jsI (jsI (jsI (jsI R 118 2398 (nI t)) 119 2398 who) 120 2398 due) 121 2398 day) 92 2398 226) 123 2398 0) 124 2398 0) 125 2398 0) 126 2398 0) 127 2398 (-1)) 133 2398 0) := (((((((((((Fr.refl).sI (by unfold qBg; omega)).sI (by unfold qBg; omega)).sI (by unfold qBg; omega)).sI (by unfold qBg; omega)).sI (by unfold qBg; omega)).sI (by unfold qBg; omega)).sI (by unfold qBg; omega)).sI (by unfold qBg; omega)).sI (by unfold qBg; omega)).sI (by unfold qBg; omega)).sI (by unfold qBg; omega)
  obtain ⟨Rb, g1, g2, g3⟩ := bc_ok hr24 24 1100000 0 _ (hR.frqBg hR0) (by omega) (by omega) (fun j hj => absurd hj (by omega))
  have er0 : f_X12_beginCase 2398 (nI t) (nI r) who due day R = f_X12_workRule (g_V 1000) 2398 (nI r) (jsI Rb 122 2398 (nI r)) := by
    unfold f_X12_beginCase
    rw [if_pos k_2398, jlt, jlt, jlt, jlt, jlt, jlt, jlt, jlt, jlt, jlt, jlt]
    exact g1
  have hRz : Fr qBg R (jsI Rb 122 2398 (nI r)) := (hR0.trans (g2.mono (fun t f a z => by unfold qBg; omega))).sI (by unfold qBg; omega)
  have hR1 : Fr qBg R (jsI (jsI Rb 122 2398 (nI r)) 122 2398 (nI r)) := hRz.sI (by unfold qBg; omega)
  have z20 : jAI (jsI Rb 122 2398 (nI r)) 2420 r = 0 := g3 r hr24
  have r20 : ∀ j, j < 24 → jAI (jsI (jsI Rb 122 2398 (nI r)) 122 2398 (nI r)) 2420 j = 0 := g3
  have z122 : jI (jsI Rb 122 2398 (nI r)) 122 2398 = nI r := by simp only [m_I_sI, m_L_sI, m_R_sI, m_AI_sI, m_AL_sI, m_AD_sI, m_AR_sI, m_n_sI, m_I_sL, m_L_sL, m_R_sL, m_AI_sL, m_AL_sL, m_AD_sL, m_AR_sL, m_n_sL, m_I_sR, m_L_sR, m_R_sR, m_AI_sR, m_AL_sR, m_AD_sR, m_AR_sR, m_n_sR, m_I_rI, m_L_rI, m_R_rI, m_AI_rI, m_AL_rI, m_AD_rI, m_AR_rI, m_n_rI, m_I_rL, m_L_rL, m_R_rL, m_AI_rL, m_AL_rL, m_AD_rL, m_AR_rL, m_n_rL, m_I_rD, m_L_rD, m_R_rD, m_AI_rD, m_AL_rD, m_AD_rD, m_AR_rD, m_n_rD, m_I_rR, m_L_rR, m_R_rR, m_AI_rR, m_AL_rR, m_AD_rR, m_AR_rR, m_n_rR, true_and, and_true, and_false, false_and, and_self, if_true, if_false, ite_self, Nat.reduceEqDiff, reduceIte, obt, jlt, jbt, jbd_ite, bind_ite]
  have r122 : jI (jsI (jsI Rb 122 2398 (nI r)) 122 2398 (nI r)) 122 2398 = nI r := by simp only [m_I_sI, m_L_sI, m_R_sI, m_AI_sI, m_AL_sI, m_AD_sI, m_AR_sI, m_n_sI, m_I_sL, m_L_sL, m_R_sL, m_AI_sL, m_AL_sL, m_AD_sL, m_AR_sL, m_n_sL, m_I_sR, m_L_sR, m_R_sR, m_AI_sR, m_AL_sR, m_AD_sR, m_AR_sR, m_n_sR, m_I_rI, m_L_rI, m_R_rI, m_AI_rI, m_AL_rI, m_AD_rI, m_AR_rI, m_n_rI, m_I_rL, m_L_rL, m_R_rL, m_AI_rL, m_AL_rL, m_AD_rL, m_AR_rL, m_n_rL, m_I_rD, m_L_rD, m_R_rD, m_AI_rD, m_AL_rD, m_AD_rD, m_AR_rD, m_n_rD, m_I_rR, m_L_rR, m_R_rR, m_AI_rR, m_AL_rR, m_AD_rR, m_AR_rR, m_n_rR, true_and, and_true, and_false, false_and, and_self, if_true, if_false, ite_self, Nat.reduceEqDiff, reduceIte, obt, jlt, jbt, jbd_ite, bind_ite]
  have rv : jI (jsI (jsI Rb 122 2398 (nI r)) 122 2398 (nI r)) 118 2398 = nI t ∧ jI (jsI (jsI Rb 122 2398 (nI r)) 122 2398 (nI r)) 119 2398 = who ∧ jI (jsI (jsI Rb 122 2398 (nI r)) 122 2398 (nI r)) 120 2398 = due ∧ jI (jsI (jsI Rb 122 2398 (nI r)) 122 2398 (nI r)) 121 2398 = day ∧ jI (jsI (jsI Rb 122 2398 (nI r)) 122 2398 (nI r)) 92 2398 = 226 ∧ jI (jsI (jsI Rb 122 2398 (nI r)) 122 2398 (nI r)) 123 2398 = 0 ∧ jI (jsI (jsI Rb 122 2398 (nI r)) 122 2398 (nI r)) 124 2398 = 0 ∧ jI (jsI (jsI Rb 122 2398 (nI r)) 122 2398 (nI r)) 125 2398 = 0 ∧ jI (jsI (jsI Rb 122 2398 (nI r)) 122 2398 (nI r)) 126 2398 = 0 ∧ jI (jsI (jsI Rb 122 2398 (nI r)) 122 2398 (nI r)) 127 2398 = -1 ∧ jI (jsI (jsI Rb 122 2398 (nI r)) 122 2398 (nI r)) 133 2398 = 0 := by
    refine ⟨?_, ?_, ?_, ?_, ?_, ?_, ?_, ?_, ?_, ?_, ?_⟩ <;> (simp only [m_I_sI, m_L_sI, m_R_sI, m_AI_sI, m_AL_sI, m_AD_sI, m_AR_sI, m_n_sI, m_I_sL, m_L_sL, m_R_sL, m_AI_sL, m_AL_sL, m_AD_sL, m_AR_sL, m_n_sL, m_I_sR, m_L_sR, m_R_sR, m_AI_sR, m_AL_sR, m_AD_sR, m_AR_sR, m_n_sR, m_I_rI, m_L_rI, m_R_rI, m_AI_rI, m_AL_rI, m_AD_rI, m_AR_rI, m_n_rI, m_I_rL, m_L_rL, m_R_rL, m_AI_rL, m_AL_rL, m_AD_rL, m_AR_rL, m_n_rL, m_I_rD, m_L_rD, m_R_rD, m_AI_rD, m_AL_rD, m_AD_rD, m_AR_rD, m_n_rD, m_I_rR, m_L_rR, m_R_rR, m_AI_rR, m_AL_rR, m_AD_rR, m_AR_rR, m_n_rR, true_and, and_true, and_false, false_and, and_self, if_true, if_false, ite_self, Nat.reduceEqDiff, reduceIte, obt, jlt, jbt, jbd_ite, bind_ite]; rw [g2.i (by omega)]; simp only [m_I_sI, m_L_sI, m_R_sI, m_AI_sI, m_AL_sI, m_AD_sI, m_AR_sI, m_n_sI, m_I_sL, m_L_sL, m_R_sL, m_AI_sL, m_AL_sL, m_AD_sL, m_AR_sL, m_n_sL, m_I_sR, m_L_sR, m_R_sR, m_AI_sR, m_AL_sR, m_AD_sR, m_AR_sR, m_n_sR, m_I_rI, m_L_rI, m_R_rI, m_AI_rI, m_AL_rI, m_AD_rI, m_AR_rI, m_n_rI, m_I_rL, m_L_rL, m_R_rL, m_AI_rL, m_AL_rL, m_AD_rL, m_AR_rL, m_n_rL, m_I_rD, m_L_rD, m_R_rD, m_AI_rD, m_AL_rD, m_AD_rD, m_AR_rD, m_n_rD, m_I_rR, m_L_rR, m_R_rR, m_AI_rR, m_AL_rR, m_AD_rR, m_AR_rR, m_n_rR, true_and, and_true, and_false, false_and, and_self, if_true, if_false, ite_self, Nat.reduceEqDiff, reduceIte, obt, jlt, jbt, jbd_ite, bind_ite])
  have hLz : Lay (jsI Rb 122 2398 (nI r)) := hR.frqBg hRz
  have hL1 : Lay (jsI (jsI Rb 122 2398 (nI r)) 122 2398 (nI r)) := hR.frqBg hR1
  have e2417 : jAI (jsI (jsI Rb 122 2398 (nI r)) 122 2398 (nI r)) 2417 (24 * t + r) = nI (301 * t + kr) := by rw [hR1.ai (by unfold qBg; omega)]; exact u4
  have er1 : ∀ (x : Int32) (R2 : jM), Lay R2 → g_V 1000 1 2398 (nI (301 * t + kr)) 0 (jsI (jsI Rb 122 2398 (nI r)) 122 2398 (nI r)) = some (x, R2) → f_X12_workRule (g_V 1000) 2398 (nI r) (jsI Rb 122 2398 (nI r)) = f_X12_workRule_92 (g_V 1000) 2398 (nI r) (nI r) x 2420 (nI r) (if 0 ≤ x then 1 else 2) R2 := fun x R2 hL2 hg => by
    have a20 : jA 2420 13 (nI r) = true := jA_n k_2420 (by rw [ln_2420]; omega) (by omega)
    have l17 : jA 2417 13 (nI (24 * t + r)) = true := jA_n k_2417 (by rw [ln_2417]; omega) (by omega)
    unfold f_X12_workRule
    rw [if_pos k_2398, ly_128 hLz, obt, if_pos a20, cr, z20, if_neg (by decide), obt, if_pos a20, z20, if_neg (by decide), jlt, z122, jlt, ly_112 hL1, obt, rv.1, nJ_24 ht (by omega), if_pos l17, nJ_cl (show 24 * t + r < 2147483648 by omega), e2417, hg, jbt, ly_128 hL2, obt]
    by_cases cx : 0 ≤ x
    · rw [if_pos cx, if_pos cx]
    · rw [if_neg cx, if_neg cx]
  rw [er0]
  have hsS : ∀ s, sS R (jsI (jsI Rb 122 2398 (nI r)) 122 2398 (nI r)) s := fun s => hR1.sS (fun a h1 h2 => by unfold qBg; omega) s
  generalize jsI (jsI Rb 122 2398 (nI r)) 122 2398 (nI r) = R1 at *
  obtain ⟨v118, v119, v120, v121, v92, v123, v124, v125, v126, v127, v133⟩ := rv
  have hX : ∀ t, sX R R1 t := fun t => hR1.sX (fun a h1 h2 => by unfold qBg; omega) t
  have hn31 : jI C1 31 1 = jI C 31 1 := hC1.i (by unfold pBg; omega)
  have hL : Lay C1 := hC.frBg hF hC1
  have eq1 : jAI C1 (T + 1) = jAI C (T + 1) := hC1.ai (by unfold pBg; omega)
  have eq2 : jAL C1 (T + 2) = jAL C (T + 2) := hC1.al (by unfold pBg; omega)
  have eq3 : jAI C1 (T + 3) = jAI C (T + 3) := hC1.ai (by unfold pBg; omega)
  have es : ES F T t np nr ru (jI C 31 1).toInt (jAI C (T + 1)) (jAL C (T + 2)) (jAI C (T + 3)) C1 R1 := by
    refine ⟨hL, hL1, hF, hT, ht, hnp, hnr, c64, c65, ?_, ?_, ?_, v118, by rw [hn31], ?_, ?_, ?_, ?_, ?_, eq1, eq2, eq3, fun k hk => ?_, fun r hr => ?_⟩
    · rw [cW _ (by omega), v119]; exact b2.2.2.1
    · rw [cW _ (by omega), v120]; exact b2.2.2.2.1
    · rw [cW _ (by omega), v121]; exact b2.2.2.2.2
    · exact rP_f hC1 hR1 (fun t f a => by unfold cP pBg; omega) (fun t f a => by unfold mP qBg; omega) hP
    · exact rF_f hC1 hR1 (fun t f a => by unfold cF pBg; omega) (fun t f a => by unfold mF qBg; omega) (fun s _ _ => hsS s) hf
    · rw [hC1.i (by unfold pBg; omega)]; exact h45
    · rw [hC1.i (by unfold pBg; omega)]; exact h49
    · rw [hR1.ai (by unfold qBg; omega)]; exact h15
    · exact (hK k hk).c (by omega) (hC1.sP (fun t f => by unfold pBg; omega)) (hC1.sP (fun t f => by unfold pBg; omega)) (hC1.sP (fun t f => by unfold pBg; omega)) (hX t)
    · obtain ⟨-, a1, a2, k, a3, a4, a5⟩ := hru r hr
      exact ⟨a1, a2, k, by rw [hC1.ai (by unfold pBg; omega)]; exact a3, by rw [hR1.ai (by unfold qBg; omega)]; exact a4, a5⟩
  have ed : ED F (jI C 31 1).toInt 0 226 0 C1 R1 := ⟨⟨by rw [cO _ (by omega)]; exact b3.2.2.2.1, v123, by omega⟩, ⟨by rw [cO _ (by omega), v124]; exact b3.2.2.2.2.1, by rw [cO _ (by omega), v125]; exact b3.2.2.2.2.2.1⟩, ⟨by rw [cO _ (by omega)]; exact b3.2.2.2.2.2.2, v133, (cw_0 cF1).symm⟩, ⟨v92, by omega, by omega⟩, fun q hq => .inl ⟨cF1 q hq, r20 q hq⟩, fun k hk => absurd hk (by omega)⟩
  have ok : OKS F C1 R1 := ⟨by rw [cO _ (by omega)]; exact b3.2.1, by rw [cO _ (by omega)]; exact b3.2.2.1, v126, v127⟩
  obtain ⟨j, C2, x, R2, i1, i2, w', p', sc', i3, i4, igr, i5, i6, i7⟩ := NC_all (ru r).1 1000 (by omega) (fun _ => False) (ru r).2.1 (ru r).2.2 (ru r).2.1 kr 1 0 r 0 226 0 C1 R1 es ed ok top1 c62 r122 (by omega) (Nat.le_refl _) u2 u5 (fun q z => absurd z (fun z => z)) (by omega)
  have es2 := i4.es es (by omega)
  have hun : jAI C2 (F + 1) r = -1 := by
    rcases i4.2.2.2.2.2.2.2 r with z | z
    · exact absurd z.2 (by omega)
    · rw [z]; exact cF1 r hr24
  have hsc : sc' < 24 := by rw [i3.2.2.1.2.2]; exact cw_lt hr24 hun
  have p226' := i3.2.2.2.1
  have h400' := i3.1.2.2
  have hj : j < 999999 := by rcases i7 with ⟨-, -, z, -⟩ | ⟨-, z, -⟩ <;> omega
  rw [wl_ok hF j 1100000 0 C1 C2 i1 i5 (by omega) (by omega), er1 x R2 es2.2.1 i2]
  obtain ⟨R3, v1, v2, v3, v4, v5, v6, v7, v8, v9⟩ := wr_end (rc := g_V 1000) (r := r) (had := r) (x := x) es2.2.1 hr24 hsc i3.2.2.1.2.1 (if 0 ≤ x then 1 else 2) rfl
  rw [v1]
  have hs2 : ∀ s, sS R2 R3 s := fun s => v2.sS (fun a h1 h2 => by unfold qEr; omega) s
  obtain ⟨C3, m1, m2, m3, m4, m5, m6, m7⟩ := er_ok (v := 818) es2.1 hF hr24 i3.2.2.1.1 hsc hun (kf_pile (i := 0) (by omega)) (by omega)
  have e150 : f_X10_work_150 811 (nI r) C2 = some C3 := by
    have a17 : jA 817 19 0 = true := jA_n (i := 0) k_817 (by rw [ln_817]; omega) (by omega)
    have hpl : jAR C2 817 0 = some 818 := ly_pl es2.1 (i := 0) (by omega)
    unfold f_X10_work_150
    rw [if_pos k_811, es2.2.2.2.2.2.2.2.1, obt, ly_61 es2.1, obt, if_pos a17, cl0, hpl, obt, if_pos hF.k, m1, obt]
  refine ⟨C3, R3, x, e150, rfl, ?_, ?_, fun s hs => ((hsS s).trans (i4.2.2.2.2.1 s hs)).trans (hs2 s), ?_⟩
  · exact ((hC1.mono (fun _ _ _ z => .inl z)).trans (i4.1.mono (fun _ _ _ z => .inr z))).trans ((ERx m2 hF hr24).mono (fun _ _ _ z => .inr z))
  · exact ((hR1.mono (fun _ _ _ z => .inl z)).trans (i4.2.1.mono (fun _ _ _ z => .inr z))).trans (v2.mono (fun _ _ _ z => .inr (qEr_W z)))
  · have h6 : jI C3 6 F = nI r := by rw [m2.i (by unfold pEr; omega), i4.1.i (by unfold pW; omega)]; exact c6
    have hF2 : Fr (fun t f a => pEr F r t f a ∨ (t = 0 ∧ f = 60 ∧ a = 811)) C2 C3 := m2.mono (fun _ _ _ z => .inl z)
    rcases i7 with ⟨q1, q2, q3, q4, sl, q5, q6, q7⟩ | ⟨q1, q2, c, q3⟩
    · have hx0 : (0 : Int32) ≤ x := by rw [q6, i_le, t_0, nI_toInt (by omega)]; omega
      rw [if_pos hx0] at v3 v5 v7
      have s7 : jI C2 7 F = 0 := q1.1
      have s8 : jI C2 8 F = -1 := q1.2.1
      have v7' : ∃ y, jAI R3 2424 = upd (jAI R2 2424) sc' y ∧ y.toInt = 100 * r + (0 : Int32).toInt := ⟨_, v7, i100 hr24 (by decide)⟩
      have hvr : VR (jI C 31 1).toInt C3 (F + 5 + 2 * r) R3 sl := (m7 s7 _ R2 sl q7).c sP.refl sP.refl (hs2 sl)
      have E4 : ED F (jI C 31 1).toInt w' p' (sc' + 1) C3 R3 := ED.rule (c := 0) (l := -1) (x := x) i3 hF hr24 hun hF2 v2 m3 (by rw [m4, s7]) (by rw [m5, s8]) m6 (by rw [v3]; rfl) v4 v5 (by rw [v6, q1.2.2.2]) v7' v8 (.inl ⟨rfl, sl, q5, q6, hvr⟩)
      refine ⟨w', p', sc' + 1, E4, h6, .inl ⟨⟨?_, ?_, ?_, ?_⟩, sl, q5, q6, hvr⟩⟩
      · rw [m2.i (by unfold pEr; omega)]; exact s7
      · rw [m2.i (by unfold pEr; omega)]; exact s8
      · rw [v2.i (by unfold qEr; omega)]; exact q1.2.2.1
      · rw [v2.i (by unfold qEr; omega)]; exact q1.2.2.2
    · subst q1
      obtain ⟨fc1, fc2, fc3, fc4⟩ := q3
      rw [if_neg (by decide)] at v3 v5 v7
      have hc0 : ¬ c = 0 := fun z => by rw [z, t_0] at fc1; omega
      have v7' : ∃ y, jAI R3 2424 = upd (jAI R2 2424) sc' y ∧ y.toInt = 100 * r + c.toInt := ⟨_, v7, by rw [fc3]; exact i100 hr24 ⟨by omega, fc1.2⟩⟩
      have E4 : ED F (jI C 31 1).toInt w' p' (sc' + 1) C3 R3 := ED.rule (c := c) (l := jI C2 8 F) (x := -1) i3 hF hr24 hun hF2 v2 m3 (by rw [m4, fc2]) m5 m6 (by rw [v3, if_neg hc0]) v4 (by rw [v5, fc3]) (by rw [v6, fc4]) v7' v8 (.inr fc1)
      refine ⟨w', p', sc' + 1, E4, h6, .inr ⟨rfl, c, fc1, ?_, ?_, ?_⟩⟩
      · rw [m2.i (by unfold pEr; omega)]; exact fc2
      · rw [v2.i (by unfold qEr; omega)]; exact fc3
      · rw [m2.i (by unfold pEr; omega), v2.i (by unfold qEr; omega)]; exact fc4

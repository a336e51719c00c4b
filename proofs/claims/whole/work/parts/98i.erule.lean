/-! PURE: the evaluator: a rule ends -/
theorem aC {F : Nat} (hF : isF F) {r : Nat} (hr : r < 24) : jA (F + 1) 13 (nI r) = true ∧ jA (F + 2) 13 (nI r) = true ∧ jA (F + 3) 13 (nI r) = true ∧ jA (F + 4) 19 (nI r) = true ∧ (nI r).toNatClampNeg = r := by
  obtain ⟨k1, k2, k3, k4⟩ := kd_case hF.k
  exact ⟨jA_n k1.1 (by rw [k1.2]; omega) (by omega), jA_n k2.1 (by rw [k2.2]; omega) (by omega), jA_n k3.1 (by rw [k3.2]; omega) (by omega), jA_n k4.1 (by rw [k4.2]; omega) (by omega), nJ_cl (by omega)⟩
theorem wkd_ok {F : Nat} {S : jM} (hS : Lay S) (hF : isF F) {r : Nat} (hr : r < 24) : f_X1_isWorked F (nI r) S = some (if jAI S (F + 1) r = -1 then 0 else 1) := by
  obtain ⟨a1, a2, a3, a4, a5⟩ := aC hF hr
  obtain ⟨k1, k2, k3, k4⟩ := kd_case hF.k
  obtain ⟨l1, -⟩ := hS.2.2.2.2.2.1 F hF.k
  unfold f_X1_isWorked
  rw [if_neg (nI_neg (by omega)), if_pos hF.k, l1, obt, if_pos k1.1, k1.2, if_neg (by rw [show (Int32.ofNat 24 : Int32) = nI 24 from rfl, nJ_le (by omega) (by omega)]; omega), obt, if_pos a1, a5]
  by_cases c : jAI S (F + 1) r = -1
  · rw [if_pos c, if_pos c]
  · rw [if_neg c, if_neg c]
/-- worked already: nothing -/
theorem er_w {F : Nat} {S : jM} (hS : Lay S) (hF : isF F) {r sc v : Nat} (hr : r < 24) (h16 : jI S 16 F = nI sc) (hsc : sc ≤ 24) (hw : jAI S (F + 1) r ≠ -1) : f_X1_endRule F (nI r) v S = some S := by
  obtain ⟨k1, k2, k3, k4⟩ := kd_case hF.k
  obtain ⟨l1, l2, l3, l4, l5⟩ := hS.2.2.2.2.2.1 F hF.k
  unfold f_X1_endRule
  rw [if_neg (nI_neg (by omega)), if_pos hF.k, l1, obt, if_pos k1.1, k1.2, if_neg (by rw [show (Int32.ofNat 24 : Int32) = nI 24 from rfl, nJ_le (by omega) (by omega)]; omega), l3, obt, if_pos k3.1, wkd_ok hS hF hr, obt, if_neg hw, if_neg (show ¬ (1 : Int32) = 0 by decide), ite_self]
def pEr (F r t f a : Nat) : Prop := (a = F ∧ t = 0 ∧ f = 16) ∨ (t = 3 ∧ (a = F + 1 ∨ a = F + 2 ∨ a = F + 3 ∨ a = F + 6 + 2 * r)) ∨ (a = F + 5 + 2 * r ∧ t = 0 ∧ (f = 52 ∨ f = 53))
theorem er_ok {F : Nat} {S : jM} (hS : Lay S) (hF : isF F) {r sc v : Nat} (hr : r < 24) (h16 : jI S 16 F = nI sc) (hsc : sc < 24) (hu : jAI S (F + 1) r = -1) (hv : jK v = 7) (hvF : v < 2018) :
    ∃ S', f_X1_endRule F (nI r) v S = some S' ∧ Fr (pEr F r) S S' ∧ jI S' 16 F = nI (sc + 1) ∧ jAI S' (F + 1) = upd (jAI S (F + 1)) r (jI S 7 F) ∧ jAI S' (F + 2) = upd (jAI S (F + 2)) r (jI S 8 F) ∧ jAI S' (F + 3) = upd (jAI S (F + 3)) sc (nI r) ∧ (jI S 7 F = 0 → ∀ n R s, VR n S v R s → VR n S' (F + 5 + 2 * r) R s) := by
  have hFn := hF.n
  obtain ⟨a1, a2, a3, a4, a5⟩ := aC hF hr
  obtain ⟨-, -, a3', -, a5'⟩ := aC hF hsc
  obtain ⟨k1, k2, k3, k4⟩ := kd_case hF.k
  obtain ⟨l1, l2, l3, l4, l5⟩ := hS.2.2.2.2.2.1 F hF.k
  have hfg := hF.fig hr
  have hF28 : Fr (fun t f a => t = 3 ∧ f = f ∧ (a = F + 1 ∨ a = F + 2)) S (jrI (jrI S (F + 1) (upd (jAI S (F + 1)) r (jI S 7 F))) (F + 2) (upd (jAI S (F + 2)) r (jI S 8 F))) := ((Fr.refl).rI (by omega)).rI (by omega)
  have hL28 : Lay (jrI (jrI S (F + 1) (upd (jAI S (F + 1)) r (jI S 7 F))) (F + 2) (upd (jAI S (F + 2)) r (jI S 8 F))) := hS.fr hF28 (fun f a z => by omega) (fun a z => by
    rcases z.2.2 with w | w
    · rw [w]; omega
    · rw [w]; omega)
  have e28 : ∀ K : jM → Option jM, f_X1_endRule F (nI r) v S = (if jI S 7 F = 0 then (f_X9_setTo (F + 5 + 2 * r) v (jrI (jrI S (F + 1) (upd (jAI S (F + 1)) r (jI S 7 F))) (F + 2) (upd (jAI S (F + 2)) r (jI S 8 F)))).bind (fun S35 => f_X1_endRule_71 F (nI r) S35) else f_X1_endRule_71 F (nI r) (jrI (jrI S (F + 1) (upd (jAI S (F + 1)) r (jI S 7 F))) (F + 2) (upd (jAI S (F + 2)) r (jI S 8 F)))) := fun _ => by
    have l14 : jR (jrI (jrI S (F + 1) (upd (jAI S (F + 1)) r (jI S 7 F))) (F + 2) (upd (jAI S (F + 2)) r (jI S 8 F))) 14 F = some (F + 4) := (hL28.2.2.2.2.2.1 F hF.k).2.2.2.1
    have l13 : jR (jrI S (F + 1) (upd (jAI S (F + 1)) r (jI S 7 F))) 13 F = some (F + 2) := by simp only [m_I_sI, m_L_sI, m_R_sI, m_AI_sI, m_AL_sI, m_AD_sI, m_AR_sI, m_n_sI, m_I_sL, m_L_sL, m_R_sL, m_AI_sL, m_AL_sL, m_AD_sL, m_AR_sL, m_n_sL, m_I_sR, m_L_sR, m_R_sR, m_AI_sR, m_AL_sR, m_AD_sR, m_AR_sR, m_n_sR, m_I_rI, m_L_rI, m_R_rI, m_AI_rI, m_AL_rI, m_AD_rI, m_AR_rI, m_n_rI, m_I_rL, m_L_rL, m_R_rL, m_AI_rL, m_AL_rL, m_AD_rL, m_AR_rL, m_n_rL, m_I_rD, m_L_rD, m_R_rD, m_AI_rD, m_AL_rD, m_AD_rD, m_AR_rD, m_n_rD, m_I_rR, m_L_rR, m_R_rR, m_AI_rR, m_AL_rR, m_AD_rR, m_AR_rR, m_n_rR]; exact l2
    have lfg : jAR (jrI (jrI S (F + 1) (upd (jAI S (F + 1)) r (jI S 7 F))) (F + 2) (upd (jAI S (F + 2)) r (jI S 8 F))) (F + 4) r = some (F + 5 + 2 * r) := by
      rw [(hL28.2.2.2.2.2.1 F hF.k).2.2.2.2 r hr]
    have e7 : jI (jrI (jrI S (F + 1) (upd (jAI S (F + 1)) r (jI S 7 F))) (F + 2) (upd (jAI S (F + 2)) r (jI S 8 F))) 7 F = jI S 7 F := by simp only [m_I_sI, m_L_sI, m_R_sI, m_AI_sI, m_AL_sI, m_AD_sI, m_AR_sI, m_n_sI, m_I_sL, m_L_sL, m_R_sL, m_AI_sL, m_AL_sL, m_AD_sL, m_AR_sL, m_n_sL, m_I_sR, m_L_sR, m_R_sR, m_AI_sR, m_AL_sR, m_AD_sR, m_AR_sR, m_n_sR, m_I_rI, m_L_rI, m_R_rI, m_AI_rI, m_AL_rI, m_AD_rI, m_AR_rI, m_n_rI, m_I_rL, m_L_rL, m_R_rL, m_AI_rL, m_AL_rL, m_AD_rL, m_AR_rL, m_n_rL, m_I_rD, m_L_rD, m_R_rD, m_AI_rD, m_AL_rD, m_AD_rD, m_AR_rD, m_n_rD, m_I_rR, m_L_rR, m_R_rR, m_AI_rR, m_AL_rR, m_AD_rR, m_AR_rR, m_n_rR]
    have e8 : jI (jrI S (F + 1) (upd (jAI S (F + 1)) r (jI S 7 F))) 8 F = jI S 8 F := by simp only [m_I_sI, m_L_sI, m_R_sI, m_AI_sI, m_AL_sI, m_AD_sI, m_AR_sI, m_n_sI, m_I_sL, m_L_sL, m_R_sL, m_AI_sL, m_AL_sL, m_AD_sL, m_AR_sL, m_n_sL, m_I_sR, m_L_sR, m_R_sR, m_AI_sR, m_AL_sR, m_AD_sR, m_AR_sR, m_n_sR, m_I_rI, m_L_rI, m_R_rI, m_AI_rI, m_AL_rI, m_AD_rI, m_AR_rI, m_n_rI, m_I_rL, m_L_rL, m_R_rL, m_AI_rL, m_AL_rL, m_AD_rL, m_AR_rL, m_n_rL, m_I_rD, m_L_rD, m_R_rD, m_AI_rD, m_AL_rD, m_AD_rD, m_AR_rD, m_n_rD, m_I_rR, m_L_rR, m_R_rR, m_AI_rR, m_AL_rR, m_AD_rR, m_AR_rR, m_n_rR]
    have e2 : jAI (jrI S (F + 1) (upd (jAI S (F + 1)) r (jI S 7 F))) (F + 2) = jAI S (F + 2) := by simp only [m_I_sI, m_L_sI, m_R_sI, m_AI_sI, m_AL_sI, m_AD_sI, m_AR_sI, m_n_sI, m_I_sL, m_L_sL, m_R_sL, m_AI_sL, m_AL_sL, m_AD_sL, m_AR_sL, m_n_sL, m_I_sR, m_L_sR, m_R_sR, m_AI_sR, m_AL_sR, m_AD_sR, m_AR_sR, m_n_sR, m_I_rI, m_L_rI, m_R_rI, m_AI_rI, m_AL_rI, m_AD_rI, m_AR_rI, m_n_rI, m_I_rL, m_L_rL, m_R_rL, m_AI_rL, m_AL_rL, m_AD_rL, m_AR_rL, m_n_rL, m_I_rD, m_L_rD, m_R_rD, m_AI_rD, m_AL_rD, m_AD_rD, m_AR_rD, m_n_rD, m_I_rR, m_L_rR, m_R_rR, m_AI_rR, m_AL_rR, m_AD_rR, m_AR_rR, m_n_rR]; rw [if_neg (by omega)]
    unfold f_X1_endRule
    rw [if_neg (nI_neg (by omega)), if_pos hF.k, l1, obt, if_pos k1.1, k1.2, if_neg (by rw [show (Int32.ofNat 24 : Int32) = nI 24 from rfl, nJ_le (by omega) (by omega)]; omega), l3, obt, if_pos k3.1, k3.2, h16, if_neg (by rw [show (Int32.ofNat 24 : Int32) = nI 24 from rfl, nJ_le (by omega) (by omega)]; omega), wkd_ok hS hF hr, obt, if_pos hu, if_pos rfl, obt, if_pos a1, a5, jlt, l13, obt, if_pos a2, jlt, e2, e8, e7, l14, obt, if_pos a4, lfg, obt, if_pos hfg]
  -- the last piece
  have e71 : ∀ S5 : jM, Lay S5 → jI S5 16 F = nI sc → f_X1_endRule_71 F (nI r) S5 = some (jrI (jsI S5 16 F (nI (sc + 1))) (F + 3) (upd (jAI S5 (F + 3)) sc (nI r))) := fun S5 h5 h16' => by
    unfold f_X1_endRule_71
    rw [if_pos hF.k, (h5.2.2.2.2.2.1 F hF.k).2.2.1, obt, h16', jlt, nJ_1 (by omega), jlt, if_pos a3', a5', jlt]
    rfl
  rw [e28 (fun S => some S)]
  by_cases c : jI S 7 F = 0
  · rw [if_pos c]
    -- the figure is kept
    have n1 : F + 5 + 2 * r ≠ v := by omega
    have n2 : F + 5 + 2 * r ≠ v + 1 := fun z => by have := (kd_val hv).1; rw [← z] at this; omega
    have n3 : v ≠ F + 5 + 2 * r + 1 := fun z => by have := (kd_val hfg).1; rw [← z] at this; omega
    have hst := setTo_ok hL28 hfg hv
    have hFs : Fr (pV (F + 5 + 2 * r)) (jrI (jrI S (F + 1) (upd (jAI S (F + 1)) r (jI S 7 F))) (F + 2) (upd (jAI S (F + 2)) r (jI S 8 F))) (jrL (jsI (jsI (jrI (jrI S (F + 1) (upd (jAI S (F + 1)) r (jI S 7 F))) (F + 2) (upd (jAI S (F + 2)) r (jI S 8 F))) 52 (F + 5 + 2 * r) (jI (jrI (jrI S (F + 1) (upd (jAI S (F + 1)) r (jI S 7 F))) (F + 2) (upd (jAI S (F + 2)) r (jI S 8 F))) 52 v)) 53 (F + 5 + 2 * r) (jI (jsI (jrI (jrI S (F + 1) (upd (jAI S (F + 1)) r (jI S 7 F))) (F + 2) (upd (jAI S (F + 2)) r (jI S 8 F))) 52 (F + 5 + 2 * r) (jI (jrI (jrI S (F + 1) (upd (jAI S (F + 1)) r (jI S 7 F))) (F + 2) (upd (jAI S (F + 2)) r (jI S 8 F))) 52 v)) 53 v)) (F + 5 + 2 * r + 1) (va_cpy (jAL (jrI (jrI S (F + 1) (upd (jAI S (F + 1)) r (jI S 7 F))) (F + 2) (upd (jAI S (F + 2)) r (jI S 8 F))) (v + 1)) (jAL (jrI (jrI S (F + 1) (upd (jAI S (F + 1)) r (jI S 7 F))) (F + 2) (upd (jAI S (F + 2)) r (jI S 8 F))) (F + 5 + 2 * r + 1)) 0 0 12)) := (((Fr.refl).sI (by unfold pV; omega)).sI (by unfold pV; omega)).rL (by unfold pV; omega)
    have hvr : ∀ n R s, VR n (jrI (jrI S (F + 1) (upd (jAI S (F + 1)) r (jI S 7 F))) (F + 2) (upd (jAI S (F + 2)) r (jI S 8 F))) v R s → VR n (jrL (jsI (jsI (jrI (jrI S (F + 1) (upd (jAI S (F + 1)) r (jI S 7 F))) (F + 2) (upd (jAI S (F + 2)) r (jI S 8 F))) 52 (F + 5 + 2 * r) (jI (jrI (jrI S (F + 1) (upd (jAI S (F + 1)) r (jI S 7 F))) (F + 2) (upd (jAI S (F + 2)) r (jI S 8 F))) 52 v)) 53 (F + 5 + 2 * r) (jI (jsI (jrI (jrI S (F + 1) (upd (jAI S (F + 1)) r (jI S 7 F))) (F + 2) (upd (jAI S (F + 2)) r (jI S 8 F))) 52 (F + 5 + 2 * r) (jI (jrI (jrI S (F + 1) (upd (jAI S (F + 1)) r (jI S 7 F))) (F + 2) (upd (jAI S (F + 2)) r (jI S 8 F))) 52 v)) 53 v)) (F + 5 + 2 * r + 1) (va_cpy (jAL (jrI (jrI S (F + 1) (upd (jAI S (F + 1)) r (jI S 7 F))) (F + 2) (upd (jAI S (F + 2)) r (jI S 8 F))) (v + 1)) (jAL (jrI (jrI S (F + 1) (upd (jAI S (F + 1)) r (jI S 7 F))) (F + 2) (upd (jAI S (F + 2)) r (jI S 8 F))) (F + 5 + 2 * r + 1)) 0 0 12)) (F + 5 + 2 * r) R s := fun n R s hv0 => by
      obtain ⟨C', s1, s2, s3⟩ := setTo_vr hL28 hfg hv n1 hv0
      rw [hst] at s1
      injection s1 with s1
      rw [s1]; exact s3
    rw [hst, obt]
    generalize jrL (jsI (jsI (jrI (jrI S (F + 1) (upd (jAI S (F + 1)) r (jI S 7 F))) (F + 2) (upd (jAI S (F + 2)) r (jI S 8 F))) 52 (F + 5 + 2 * r) (jI (jrI (jrI S (F + 1) (upd (jAI S (F + 1)) r (jI S 7 F))) (F + 2) (upd (jAI S (F + 2)) r (jI S 8 F))) 52 v)) 53 (F + 5 + 2 * r) (jI (jsI (jrI (jrI S (F + 1) (upd (jAI S (F + 1)) r (jI S 7 F))) (F + 2) (upd (jAI S (F + 2)) r (jI S 8 F))) 52 (F + 5 + 2 * r) (jI (jrI (jrI S (F + 1) (upd (jAI S (F + 1)) r (jI S 7 F))) (F + 2) (upd (jAI S (F + 2)) r (jI S 8 F))) 52 v)) 53 v)) (F + 5 + 2 * r + 1) (va_cpy (jAL (jrI (jrI S (F + 1) (upd (jAI S (F + 1)) r (jI S 7 F))) (F + 2) (upd (jAI S (F + 2)) r (jI S 8 F))) (v + 1)) (jAL (jrI (jrI S (F + 1) (upd (jAI S (F + 1)) r (jI S 7 F))) (F + 2) (upd (jAI S (F + 2)) r (jI S 8 F))) (F + 5 + 2 * r + 1)) 0 0 12) = S5 at *
    have hk6 : jK (F + 5 + 2 * r + 1) = 14 := (kd_val hfg).1
    have hL5 : Lay S5 := hL28.fr hFs (fun f a z => by unfold pV at z; omega) (fun a z => by unfold pV at z; rw [show a = F + 5 + 2 * r + 1 by omega]; omega)
    have h165 : jI S5 16 F = nI sc := by rw [hFs.i (by unfold pV; omega), hF28.i (by omega)]; exact h16
    rw [e71 S5 hL5 h165]
    have hF5 : Fr (fun t f a => (a = F ∧ t = 0 ∧ f = 16) ∨ (t = 3 ∧ a = F + 3)) S5 (jrI (jsI S5 16 F (nI (sc + 1))) (F + 3) (upd (jAI S5 (F + 3)) sc (nI r))) := ((Fr.refl).sI (by omega)).rI (by omega)
    refine ⟨_, rfl, ((hF28.mono (fun t f a z => by unfold pEr; omega)).trans (hFs.mono (fun t f a z => by unfold pV at z; unfold pEr; omega))).trans (hF5.mono (fun t f a z => by unfold pEr; omega)), by simp only [m_I_sI, m_L_sI, m_R_sI, m_AI_sI, m_AL_sI, m_AD_sI, m_AR_sI, m_n_sI, m_I_sL, m_L_sL, m_R_sL, m_AI_sL, m_AL_sL, m_AD_sL, m_AR_sL, m_n_sL, m_I_sR, m_L_sR, m_R_sR, m_AI_sR, m_AL_sR, m_AD_sR, m_AR_sR, m_n_sR, m_I_rI, m_L_rI, m_R_rI, m_AI_rI, m_AL_rI, m_AD_rI, m_AR_rI, m_n_rI, m_I_rL, m_L_rL, m_R_rL, m_AI_rL, m_AL_rL, m_AD_rL, m_AR_rL, m_n_rL, m_I_rD, m_L_rD, m_R_rD, m_AI_rD, m_AL_rD, m_AD_rD, m_AR_rD, m_n_rD, m_I_rR, m_L_rR, m_R_rR, m_AI_rR, m_AL_rR, m_AD_rR, m_AR_rR, m_n_rR, true_and, and_true, and_false, false_and, and_self, if_true, if_false, ite_self, Nat.reduceEqDiff, reduceIte, obt, jlt, jbt, jbd_ite, bind_ite], ?_, ?_, ?_, fun _ n R s hv0 => ?_⟩
    · rw [hF5.ai (by omega), hFs.ai (by unfold pV; omega)]; simp only [m_I_sI, m_L_sI, m_R_sI, m_AI_sI, m_AL_sI, m_AD_sI, m_AR_sI, m_n_sI, m_I_sL, m_L_sL, m_R_sL, m_AI_sL, m_AL_sL, m_AD_sL, m_AR_sL, m_n_sL, m_I_sR, m_L_sR, m_R_sR, m_AI_sR, m_AL_sR, m_AD_sR, m_AR_sR, m_n_sR, m_I_rI, m_L_rI, m_R_rI, m_AI_rI, m_AL_rI, m_AD_rI, m_AR_rI, m_n_rI, m_I_rL, m_L_rL, m_R_rL, m_AI_rL, m_AL_rL, m_AD_rL, m_AR_rL, m_n_rL, m_I_rD, m_L_rD, m_R_rD, m_AI_rD, m_AL_rD, m_AD_rD, m_AR_rD, m_n_rD, m_I_rR, m_L_rR, m_R_rR, m_AI_rR, m_AL_rR, m_AD_rR, m_AR_rR, m_n_rR, true_and, and_true, and_false, false_and, and_self, if_true, if_false, ite_self, Nat.reduceEqDiff, reduceIte, obt, jlt, jbt, jbd_ite, bind_ite]; rw [if_neg (by omega)]
    · rw [hF5.ai (by omega), hFs.ai (by unfold pV; omega)]; simp only [m_I_sI, m_L_sI, m_R_sI, m_AI_sI, m_AL_sI, m_AD_sI, m_AR_sI, m_n_sI, m_I_sL, m_L_sL, m_R_sL, m_AI_sL, m_AL_sL, m_AD_sL, m_AR_sL, m_n_sL, m_I_sR, m_L_sR, m_R_sR, m_AI_sR, m_AL_sR, m_AD_sR, m_AR_sR, m_n_sR, m_I_rI, m_L_rI, m_R_rI, m_AI_rI, m_AL_rI, m_AD_rI, m_AR_rI, m_n_rI, m_I_rL, m_L_rL, m_R_rL, m_AI_rL, m_AL_rL, m_AD_rL, m_AR_rL, m_n_rL, m_I_rD, m_L_rD, m_R_rD, m_AI_rD, m_AL_rD, m_AD_rD, m_AR_rD, m_n_rD, m_I_rR, m_L_rR, m_R_rR, m_AI_rR, m_AL_rR, m_AD_rR, m_AR_rR, m_n_rR, true_and, and_true, and_false, false_and, and_self, if_true, if_false, ite_self, Nat.reduceEqDiff, reduceIte, obt, jlt, jbt, jbd_ite, bind_ite]
    · have e3 : jAI S5 (F + 3) = jAI S (F + 3) := by rw [hFs.ai (by unfold pV; omega), hF28.ai (by omega)]
      simp only [m_I_sI, m_L_sI, m_R_sI, m_AI_sI, m_AL_sI, m_AD_sI, m_AR_sI, m_n_sI, m_I_sL, m_L_sL, m_R_sL, m_AI_sL, m_AL_sL, m_AD_sL, m_AR_sL, m_n_sL, m_I_sR, m_L_sR, m_R_sR, m_AI_sR, m_AL_sR, m_AD_sR, m_AR_sR, m_n_sR, m_I_rI, m_L_rI, m_R_rI, m_AI_rI, m_AL_rI, m_AD_rI, m_AR_rI, m_n_rI, m_I_rL, m_L_rL, m_R_rL, m_AI_rL, m_AL_rL, m_AD_rL, m_AR_rL, m_n_rL, m_I_rD, m_L_rD, m_R_rD, m_AI_rD, m_AL_rD, m_AD_rD, m_AR_rD, m_n_rD, m_I_rR, m_L_rR, m_R_rR, m_AI_rR, m_AL_rR, m_AD_rR, m_AR_rR, m_n_rR, true_and, and_true, and_false, false_and, and_self, if_true, if_false, ite_self, Nat.reduceEqDiff, reduceIte, obt, jlt, jbt, jbd_ite, bind_ite]; rw [e3]
    · exact (hvr n R s (hv0.c (hF28.sP (fun t f => by omega)) (hF28.sP (fun t f => by omega)) sS.refl)).c (hF5.sP (fun t f => by omega)) (hF5.sP (fun t f => by omega)) sS.refl
  · rw [if_neg c]
    have h1628 : jI (jrI (jrI S (F + 1) (upd (jAI S (F + 1)) r (jI S 7 F))) (F + 2) (upd (jAI S (F + 2)) r (jI S 8 F))) 16 F = nI sc := by simp only [m_I_sI, m_L_sI, m_R_sI, m_AI_sI, m_AL_sI, m_AD_sI, m_AR_sI, m_n_sI, m_I_sL, m_L_sL, m_R_sL, m_AI_sL, m_AL_sL, m_AD_sL, m_AR_sL, m_n_sL, m_I_sR, m_L_sR, m_R_sR, m_AI_sR, m_AL_sR, m_AD_sR, m_AR_sR, m_n_sR, m_I_rI, m_L_rI, m_R_rI, m_AI_rI, m_AL_rI, m_AD_rI, m_AR_rI, m_n_rI, m_I_rL, m_L_rL, m_R_rL, m_AI_rL, m_AL_rL, m_AD_rL, m_AR_rL, m_n_rL, m_I_rD, m_L_rD, m_R_rD, m_AI_rD, m_AL_rD, m_AD_rD, m_AR_rD, m_n_rD, m_I_rR, m_L_rR, m_R_rR, m_AI_rR, m_AL_rR, m_AD_rR, m_AR_rR, m_n_rR]; exact h16
    rw [e71 _ hL28 h1628]
    have hF5 : Fr (fun t f a => (a = F ∧ t = 0 ∧ f = 16) ∨ (t = 3 ∧ a = F + 3)) (jrI (jrI S (F + 1) (upd (jAI S (F + 1)) r (jI S 7 F))) (F + 2) (upd (jAI S (F + 2)) r (jI S 8 F))) (jrI (jsI (jrI (jrI S (F + 1) (upd (jAI S (F + 1)) r (jI S 7 F))) (F + 2) (upd (jAI S (F + 2)) r (jI S 8 F))) 16 F (nI (sc + 1))) (F + 3) (upd (jAI (jrI (jrI S (F + 1) (upd (jAI S (F + 1)) r (jI S 7 F))) (F + 2) (upd (jAI S (F + 2)) r (jI S 8 F))) (F + 3)) sc (nI r))) := ((Fr.refl).sI (by omega)).rI (by omega)
    refine ⟨_, rfl, (hF28.mono (fun t f a z => by unfold pEr; omega)).trans (hF5.mono (fun t f a z => by unfold pEr; omega)), by simp only [m_I_sI, m_L_sI, m_R_sI, m_AI_sI, m_AL_sI, m_AD_sI, m_AR_sI, m_n_sI, m_I_sL, m_L_sL, m_R_sL, m_AI_sL, m_AL_sL, m_AD_sL, m_AR_sL, m_n_sL, m_I_sR, m_L_sR, m_R_sR, m_AI_sR, m_AL_sR, m_AD_sR, m_AR_sR, m_n_sR, m_I_rI, m_L_rI, m_R_rI, m_AI_rI, m_AL_rI, m_AD_rI, m_AR_rI, m_n_rI, m_I_rL, m_L_rL, m_R_rL, m_AI_rL, m_AL_rL, m_AD_rL, m_AR_rL, m_n_rL, m_I_rD, m_L_rD, m_R_rD, m_AI_rD, m_AL_rD, m_AD_rD, m_AR_rD, m_n_rD, m_I_rR, m_L_rR, m_R_rR, m_AI_rR, m_AL_rR, m_AD_rR, m_AR_rR, m_n_rR, true_and, and_true, and_false, false_and, and_self, if_true, if_false, ite_self, Nat.reduceEqDiff, reduceIte, obt, jlt, jbt, jbd_ite, bind_ite], ?_, ?_, ?_, fun z => absurd z c⟩
    · rw [hF5.ai (by omega)]; simp only [m_I_sI, m_L_sI, m_R_sI, m_AI_sI, m_AL_sI, m_AD_sI, m_AR_sI, m_n_sI, m_I_sL, m_L_sL, m_R_sL, m_AI_sL, m_AL_sL, m_AD_sL, m_AR_sL, m_n_sL, m_I_sR, m_L_sR, m_R_sR, m_AI_sR, m_AL_sR, m_AD_sR, m_AR_sR, m_n_sR, m_I_rI, m_L_rI, m_R_rI, m_AI_rI, m_AL_rI, m_AD_rI, m_AR_rI, m_n_rI, m_I_rL, m_L_rL, m_R_rL, m_AI_rL, m_AL_rL, m_AD_rL, m_AR_rL, m_n_rL, m_I_rD, m_L_rD, m_R_rD, m_AI_rD, m_AL_rD, m_AD_rD, m_AR_rD, m_n_rD, m_I_rR, m_L_rR, m_R_rR, m_AI_rR, m_AL_rR, m_AD_rR, m_AR_rR, m_n_rR, true_and, and_true, and_false, false_and, and_self, if_true, if_false, ite_self, Nat.reduceEqDiff, reduceIte, obt, jlt, jbt, jbd_ite, bind_ite]; rw [if_neg (by omega)]
    · rw [hF5.ai (by omega)]; simp only [m_I_sI, m_L_sI, m_R_sI, m_AI_sI, m_AL_sI, m_AD_sI, m_AR_sI, m_n_sI, m_I_sL, m_L_sL, m_R_sL, m_AI_sL, m_AL_sL, m_AD_sL, m_AR_sL, m_n_sL, m_I_sR, m_L_sR, m_R_sR, m_AI_sR, m_AL_sR, m_AD_sR, m_AR_sR, m_n_sR, m_I_rI, m_L_rI, m_R_rI, m_AI_rI, m_AL_rI, m_AD_rI, m_AR_rI, m_n_rI, m_I_rL, m_L_rL, m_R_rL, m_AI_rL, m_AL_rL, m_AD_rL, m_AR_rL, m_n_rL, m_I_rD, m_L_rD, m_R_rD, m_AI_rD, m_AL_rD, m_AD_rD, m_AR_rD, m_n_rD, m_I_rR, m_L_rR, m_R_rR, m_AI_rR, m_AL_rR, m_AD_rR, m_AR_rR, m_n_rR, true_and, and_true, and_false, false_and, and_self, if_true, if_false, ite_self, Nat.reduceEqDiff, reduceIte, obt, jlt, jbt, jbd_ite, bind_ite]
    · have e3 : jAI (jrI (jrI S (F + 1) (upd (jAI S (F + 1)) r (jI S 7 F))) (F + 2) (upd (jAI S (F + 2)) r (jI S 8 F))) (F + 3) = jAI S (F + 3) := hF28.ai (by omega)
      rw [m_AI_rI, if_pos rfl, e3]
/-- the rule's end, as the reference tells it -/
def qEr (t f a : Nat) : Prop := (t = 0 ∧ (f = 122 ∨ f = 133) ∧ a = 2398) ∨ (t = 3 ∧ f = f ∧ 2420 ≤ a ∧ a ≤ 2424)
theorem ED.rule {F : Nat} {n : Int} {w p sc r : Nat} {C R C' R' : jM} {c l x : Int32} (h : ED F n w p sc C R) (hF : isF F) (hr : r < 24) (hu : jAI C (F + 1) r = -1) (hC : Fr (fun t f a => pEr F r t f a ∨ (t = 0 ∧ f = 60 ∧ a = 811)) C C') (hR : Fr qEr R R') (c16 : jI C' 16 F = nI (sc + 1)) (c1 : jAI C' (F + 1) = upd (jAI C (F + 1)) r c) (c2 : jAI C' (F + 2) = upd (jAI C (F + 2)) r l) (c3 : jAI C' (F + 3) = upd (jAI C (F + 3)) sc (nI r))
    (r0 : jAI R' 2420 = upd (jAI R 2420) r (if c = 0 then 1 else 2)) (r1 : jAI R' 2421 = upd (jAI R 2421) r x) (r2 : jAI R' 2422 = upd (jAI R 2422) r c) (r3 : jAI R' 2423 = upd (jAI R 2423) r l) (r4 : ∃ y, jAI R' 2424 = upd (jAI R 2424) sc y ∧ y.toInt = 100 * r + c.toInt) (r5 : jI R' 133 2398 = nI (sc + 1))
    (hc : (c = 0 ∧ ∃ s, (s < p ∧ (s ≤ 200 ∨ 226 ≤ s)) ∧ x = nI s ∧ VR n C' (F + 5 + 2 * r) R' s) ∨ (1 ≤ c.toInt ∧ c.toInt ≤ 7)) : ED F n w p (sc + 1) C' R' := by
  have hFn := hF.n
  obtain ⟨⟨a1, a2, a3⟩, ⟨a4, a5⟩, ⟨a6, a7, a8⟩, ⟨a9, a10, a11⟩, a12, a13⟩ := h
  have hc1 : c ≠ -1 := fun z => by
    rcases hc with ⟨y, -⟩ | y
    · rw [y] at z; exact absurd z (by decide)
    · rw [z] at y; exact absurd y (by decide)
  have hs : ∀ s, sS R R' s := fun s => hR.sS (fun a h1 h2 => by unfold qEr; omega) s
  refine ⟨⟨by rw [hC.i (by unfold pEr; omega)]; exact a1, by rw [hR.i (by unfold qEr; omega)]; exact a2, a3⟩, ⟨by rw [hC.i (by unfold pEr; omega), hR.i (by unfold qEr; omega)]; exact a4, by rw [hC.i (by unfold pEr; omega), hR.i (by unfold qEr; omega)]; exact a5⟩, ⟨c16, r5, by rw [c1, cw_upd hr hu hc1, a8]⟩, ⟨by rw [hR.i (by unfold qEr; omega)]; exact a9, a10, a11⟩, fun q hq => ?_, fun k hk => ?_⟩
  · unfold RR
    rw [c1, c2, r0, r1, r2, r3]
    by_cases e : q = r
    · subst e
      simp only [upd_if, if_true]
      rcases hc with ⟨y, s, y1, y2, y3⟩ | y
      · refine .inr (.inl ⟨y, by rw [if_pos y], y, s, y1, y2, y3⟩)
      · refine .inr (.inr ⟨y, ?_, by trivial, by trivial⟩)
        rw [if_neg (fun z => by rw [z, t_0] at y; omega)]
    · simp only [upd_if, if_neg e]
      rcases a12 q hq with z | ⟨z1, z2, z3, s, z4, z5, z6⟩ | z
      · exact .inl z
      · exact .inr (.inl ⟨z1, z2, z3, s, z4, z5, z6.c (hC.sP (fun t f => by unfold pEr; omega)) (hC.sP (fun t f => by unfold pEr; omega)) (hs s)⟩)
      · exact .inr (.inr z)
  · obtain ⟨y, y1, y2⟩ := r4
    rw [c3, c1, y1]
    by_cases e : k = sc
    · subst e
      exact ⟨r, hr, by rw [upd_if, if_pos rfl], by rw [upd_if, if_pos rfl]; exact hc1, by rw [upd_if, upd_if, if_pos rfl, if_pos rfl]; exact y2⟩
    · obtain ⟨q, q1, q2, q3, q4⟩ := a13 k (by omega)
      have hqr : q ≠ r := fun z => q3 (by rw [z]; exact hu)
      exact ⟨q, q1, by rw [upd_if, if_neg e]; exact q2, by rw [upd_if, if_neg hqr]; exact q3, by rw [upd_if, upd_if, if_neg e, if_neg hqr]; exact q4⟩

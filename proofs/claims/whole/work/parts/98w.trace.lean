/-! PURE: the reference keeps what a figure's rules came to -/
def qTr (t f a : Nat) : Prop := t = 3 ∧ f = f ∧ ((2399 ≤ a ∧ a ≤ 2402) ∨ a = 2437)
noncomputable def trE (v9 : Int32) (S : jM) : Option (Int32 × jM) := if 0 ≤ v9 then (f_X12_copy 2398 (0 : Int32) v9 S).bind (fun S5 => some ((0 : Int32), S5)) else some (jI S 126 2398, S)
theorem Lay.frTr {R R' : jM} (h : Lay R) (hR : Fr qTr R R') : Lay R' := h.fr hR (fun f a z => by unfold qTr at z; omega) (fun a z => by have := k16r a; unfold qTr at z; omega)
theorem tr_ok {R : jM} (hR : Lay R) {sc : Nat} (hsc : sc ≤ 24) (h133 : jI R 133 2398 = nI sc) {rr cc ss : Nat → Nat} (hh : ∀ k, k < sc → rr k < 24 ∧ cc k < 8 ∧ jAI R 2424 k = nI (100 * rr k + cc k) ∧ (cc k = 0 → (ss k < 1500 ∧ (ss k ≤ 200 ∨ 226 ≤ ss k)) ∧ jAI R 2421 (rr k) = nI (ss k))) (v9 : Int32) :
    ∀ (m fuel k : Nat) (R' : jM), k + m = sc → m < fuel → Fr qTr R R' → (∀ z, z < 201 ∨ 201 + k ≤ z → sS R R' z) → (∀ i, i < k → jAI R' 2437 i = jAI R 2424 i ∧ (cc i = 0 → ∀ n C a, VR n C a R (ss i) → VR n C a R' (201 + i))) →
    ∃ R'', f_X12_figure_166 fuel 2398 v9 (nI k) R' = trE v9 R'' ∧ Fr qTr R R'' ∧ (∀ z, z < 201 ∨ 201 + sc ≤ z → sS R R'' z) ∧ (∀ i, i < sc → jAI R'' 2437 i = jAI R 2424 i ∧ (cc i = 0 → ∀ n C a, VR n C a R (ss i) → VR n C a R'' (201 + i))) := by
  intro m
  induction m with
  | zero =>
    intro fuel k R' h1 h2 h3 h4 h5
    obtain ⟨fuel, rfl⟩ : ∃ z, fuel = z + 1 := ⟨fuel - 1, by omega⟩
    have e : k = sc := by omega
    subst e
    refine ⟨R', ?_, h3, h4, h5⟩
    have e133 : jI R' 133 2398 = nI k := by rw [h3.i (by unfold qTr; omega)]; exact h133
    rw [f_X12_figure_166, if_pos k_2398, e133, if_pos (by rw [nJ_le (by omega) (by omega)]; omega)]
    rfl
  | succ m ih =>
    intro fuel k R' h1 h2 h3 h4 h5
    obtain ⟨fuel, rfl⟩ : ∃ z, fuel = z + 1 := ⟨fuel - 1, by omega⟩
    obtain ⟨g1, g2, g3, g4⟩ := hh k (by omega)
    obtain ⟨d1, d2, d3⟩ := d100 (rr k) g1 (cc k) g2
    have hL' : Lay R' := hR.frTr h3
    have e133 : jI R' 133 2398 = nI sc := by rw [h3.i (by unfold qTr; omega)]; exact h133
    have e24 : jAI R' 2424 k = nI (100 * rr k + cc k) := by rw [h3.ai (by unfold qTr; omega)]; exact g3
    have a37 : jA 2437 13 (nI k) = true := jA_n k_2437 (by rw [ln_2437]; omega) (by omega)
    have a24 : jA 2424 13 (nI k) = true := jA_n k_2424 (by rw [ln_2424]; omega) (by omega)
    have ck : (nI k).toNatClampNeg = k := nJ_cl (by omega)
    have hf : Fr qTr R' (jrI R' 2437 (upd (jAI R' 2437) k (jAI R' 2424 k))) := (Fr.refl).rI (by unfold qTr; omega)
    have hL1 : Lay (jrI R' 2437 (upd (jAI R' 2437) k (jAI R' 2424 k))) := hL'.frTr hf
    have n37 : ∀ i, jAI (jrI R' 2437 (upd (jAI R' 2437) k (jAI R' 2424 k))) 2437 i = if i = k then jAI R' 2424 k else jAI R' 2437 i := fun i => by simp only [m_I_sI, m_L_sI, m_R_sI, m_AI_sI, m_AL_sI, m_AD_sI, m_AR_sI, m_n_sI, m_I_sL, m_L_sL, m_R_sL, m_AI_sL, m_AL_sL, m_AD_sL, m_AR_sL, m_n_sL, m_I_sR, m_L_sR, m_R_sR, m_AI_sR, m_AL_sR, m_AD_sR, m_AR_sR, m_n_sR, m_I_rI, m_L_rI, m_R_rI, m_AI_rI, m_AL_rI, m_AD_rI, m_AR_rI, m_n_rI, m_I_rL, m_L_rL, m_R_rL, m_AI_rL, m_AL_rL, m_AD_rL, m_AR_rL, m_n_rL, m_I_rD, m_L_rD, m_R_rD, m_AI_rD, m_AL_rD, m_AD_rD, m_AR_rD, m_n_rD, m_I_rR, m_L_rR, m_R_rR, m_AI_rR, m_AL_rR, m_AD_rR, m_AR_rR, m_n_rR, upd_if, true_and, and_true, and_false, false_and, and_self, if_true, if_false, ite_self, Nat.reduceEqDiff, reduceIte, obt, jlt, jbt, jbd_ite, bind_ite]
    have n24 : jAI (jrI R' 2437 (upd (jAI R' 2437) k (jAI R' 2424 k))) 2424 k = nI (100 * rr k + cc k) := by simp only [m_I_sI, m_L_sI, m_R_sI, m_AI_sI, m_AL_sI, m_AD_sI, m_AR_sI, m_n_sI, m_I_sL, m_L_sL, m_R_sL, m_AI_sL, m_AL_sL, m_AD_sL, m_AR_sL, m_n_sL, m_I_sR, m_L_sR, m_R_sR, m_AI_sR, m_AL_sR, m_AD_sR, m_AR_sR, m_n_sR, m_I_rI, m_L_rI, m_R_rI, m_AI_rI, m_AL_rI, m_AD_rI, m_AR_rI, m_n_rI, m_I_rL, m_L_rL, m_R_rL, m_AI_rL, m_AL_rL, m_AD_rL, m_AR_rL, m_n_rL, m_I_rD, m_L_rD, m_R_rD, m_AI_rD, m_AL_rD, m_AD_rD, m_AR_rD, m_n_rD, m_I_rR, m_L_rR, m_R_rR, m_AI_rR, m_AL_rR, m_AD_rR, m_AR_rR, m_n_rR, true_and, and_true, and_false, false_and, and_self, if_true, if_false, ite_self, Nat.reduceEqDiff, reduceIte, obt, jlt, jbt, jbd_ite, bind_ite]; exact e24
    have nsS : ∀ z, sS R' (jrI R' 2437 (upd (jAI R' 2437) k (jAI R' 2424 k))) z := fun z => ((Fr.refl).rI (p := fun t f a => t = 3 ∧ f = f ∧ a = 2437) ⟨rfl, rfl, rfl⟩).sS (fun a h1 h2 => by omega) z
    have estep : f_X12_figure_166 (fuel + 1) 2398 v9 (nI k) R' = if nI (cc k) = 0 then (jR (jrI R' 2437 (upd (jAI R' 2437) k (jAI R' 2424 k))) 129 2398).bind (fun r18 => if jA r18 13 (nI (rr k)) = true then (f_X12_copy 2398 ((201 : Int32) + nI k) (jAI (jrI R' 2437 (upd (jAI R' 2437) k (jAI R' 2424 k))) r18 (nI (rr k)).toNatClampNeg) (jrI R' 2437 (upd (jAI R' 2437) k (jAI R' 2424 k)))).bind (fun S24 => f_X12_figure_227 (f_X12_figure_166 fuel) 2398 v9 (nI k) S24) else none) else f_X12_figure_227 (f_X12_figure_166 fuel) 2398 v9 (nI k) (jrI R' 2437 (upd (jAI R' 2437) k (jAI R' 2424 k))) := by
      rw [f_X12_figure_166, if_pos k_2398, e133, if_neg (by rw [nJ_le (by omega) (by omega)]; omega), ly_155 hL', obt, ly_132 hL', obt, if_pos a24, if_pos a37, ck, jlt, ly_132 hL1, obt, if_pos a24, n24, d1]
      by_cases cz : nI (cc k) = 0
      · rw [if_pos cz, if_pos cz]
        congr 1
        funext r18
        rw [obt, if_pos a24, n24, d2]
      · rw [if_neg cz, if_neg cz]
    generalize jrI R' 2437 (upd (jAI R' 2437) k (jAI R' 2424 k)) = S13 at *
    have e227 : ∀ S, f_X12_figure_227 (f_X12_figure_166 fuel) 2398 v9 (nI k) S = f_X12_figure_166 fuel 2398 v9 (nI (k + 1)) S := fun S => by
      unfold f_X12_figure_227
      rw [jlt, nJ_1 (by omega)]
    by_cases cz : cc k = 0
    · obtain ⟨⟨w1, w2⟩, w3⟩ := g4 cz
      have a21 : jA 2421 13 (nI (rr k)) = true := jA_n k_2421 (by rw [ln_2421]; omega) (by omega)
      have e21 : jAI S13 2421 (rr k) = nI (ss k) := by rw [hf.ai (by unfold qTr; omega), h3.ai (by unfold qTr; omega)]; exact w3
      obtain ⟨Rb, u1, u2, u3, u4⟩ := copy_vr hL1 (s := 201 + k) (q := ss k) (by omega) w1 (v := (201 : Int32) + nI k) (w := nI (ss k)) (by rw [show (201 : Int32) + nI k = nI (201 + k) from nJ_add (a := 201) (b := k) (by omega), nI_toInt (by omega)]) (nI_toInt (by omega))
      rw [estep, if_pos (by rw [cz]; rfl), ly_129 hL1, obt, if_pos a21, nJ_cl (by omega), e21, u1, obt, e227]
      have hFb : Fr qTr R Rb := (h3.trans hf).trans (u2.mono (fun t f a z => by unfold qV at z; unfold qTr; omega))
      refine ih fuel (k + 1) Rb (by omega) (by omega) hFb (fun z hz => ((h4 z (by omega)).trans (nsS z)).trans (u3 z (by omega))) (fun i hi => ?_)
      have e37 : jAI Rb 2437 i = if i = k then jAI R' 2424 k else jAI R' 2437 i := by rw [u2.ai (by unfold qV; omega)]; exact n37 i
      by_cases ci : i = k
      · subst ci
        refine ⟨by rw [e37, if_pos rfl, e24, g3], fun _ n C a hv => u4 n C a (hv.c sP.refl sP.refl ((h4 (ss i) (by omega)).trans (nsS _)))⟩
      · obtain ⟨f1, f2⟩ := h5 i (by omega)
        exact ⟨by rw [e37, if_neg ci, f1], fun hc n C a hv => (f2 hc n C a hv).c sP.refl sP.refl ((nsS _).trans (u3 _ (by omega)))⟩
    · have nz : ¬ nI (cc k) = 0 := fun z => by
        have := congrArg Int32.toInt z
        rw [nI_toInt (by omega), t_0] at this
        omega
      rw [estep, if_neg nz, e227]
      refine ih fuel (k + 1) S13 (by omega) (by omega) (h3.trans hf) (fun z hz => (h4 z (by omega)).trans (nsS z)) (fun i hi => ?_)
      by_cases ci : i = k
      · subst ci
        exact ⟨by rw [n37, if_pos rfl, e24, g3], fun z => absurd z cz⟩
      · obtain ⟨f1, f2⟩ := h5 i (by omega)
        exact ⟨by rw [n37, if_neg ci, f1], fun hc n C a hv => (f2 hc n C a hv).c sP.refl sP.refl (nsS _)⟩

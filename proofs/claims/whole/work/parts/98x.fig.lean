/-! PURE: figure -/
def fgS (t1 : Int32) (R : jM) : jM := jsI (jsI (jsI (jsI (jsI R 150 2398 t1) 151 2398 (jI R 123 2398)) 152 2398 (jI R 133 2398)) 153 2398 (jI R 124 2398)) 154 2398 (jI R 125 2398)
theorem fgS_fr {t1 : Int32} {R : jM} : Fr (fun t f a => t = 0 ∧ a = 2398 ∧ 150 ≤ f ∧ f ≤ 154) R (fgS t1 R) := (((((Fr.refl).sI (by omega)).sI (by omega)).sI (by omega)).sI (by omega)).sI (by omega)
theorem fig128 {x t1 : Int32} {R : jM} : f_X12_figure_128 2398 x 2398 t1 R = f_X12_figure_166 1100000 2398 x (nI 0) (fgS t1 R) := by
  unfold f_X12_figure_128
  rw [if_pos k_2398, jlt, if_pos k_2398, jlt, jlt, jlt, jlt]
  have e1 : jI (jsI R 150 2398 t1) 123 2398 = jI R 123 2398 := by simp only [m_I_sI, m_L_sI, m_R_sI, m_AI_sI, m_AL_sI, m_AD_sI, m_AR_sI, m_n_sI, m_I_sL, m_L_sL, m_R_sL, m_AI_sL, m_AL_sL, m_AD_sL, m_AR_sL, m_n_sL, m_I_sR, m_L_sR, m_R_sR, m_AI_sR, m_AL_sR, m_AD_sR, m_AR_sR, m_n_sR, m_I_rI, m_L_rI, m_R_rI, m_AI_rI, m_AL_rI, m_AD_rI, m_AR_rI, m_n_rI, m_I_rL, m_L_rL, m_R_rL, m_AI_rL, m_AL_rL, m_AD_rL, m_AR_rL, m_n_rL, m_I_rD, m_L_rD, m_R_rD, m_AI_rD, m_AL_rD, m_AD_rD, m_AR_rD, m_n_rD, m_I_rR, m_L_rR, m_R_rR, m_AI_rR, m_AL_rR, m_AD_rR, m_AR_rR, m_n_rR, true_and, and_true, and_false, false_and, and_self, if_true, if_false, ite_self, Nat.reduceEqDiff, reduceIte, obt, jlt, jbt, jbd_ite, bind_ite]
  have e2 : ∀ z, jI (jsI (jsI R 150 2398 t1) 151 2398 z) 133 2398 = jI R 133 2398 := fun z => by simp only [m_I_sI, m_L_sI, m_R_sI, m_AI_sI, m_AL_sI, m_AD_sI, m_AR_sI, m_n_sI, m_I_sL, m_L_sL, m_R_sL, m_AI_sL, m_AL_sL, m_AD_sL, m_AR_sL, m_n_sL, m_I_sR, m_L_sR, m_R_sR, m_AI_sR, m_AL_sR, m_AD_sR, m_AR_sR, m_n_sR, m_I_rI, m_L_rI, m_R_rI, m_AI_rI, m_AL_rI, m_AD_rI, m_AR_rI, m_n_rI, m_I_rL, m_L_rL, m_R_rL, m_AI_rL, m_AL_rL, m_AD_rL, m_AR_rL, m_n_rL, m_I_rD, m_L_rD, m_R_rD, m_AI_rD, m_AL_rD, m_AD_rD, m_AR_rD, m_n_rD, m_I_rR, m_L_rR, m_R_rR, m_AI_rR, m_AL_rR, m_AD_rR, m_AR_rR, m_n_rR, true_and, and_true, and_false, false_and, and_self, if_true, if_false, ite_self, Nat.reduceEqDiff, reduceIte, obt, jlt, jbt, jbd_ite, bind_ite]
  have e3 : ∀ z y, jI (jsI (jsI (jsI R 150 2398 t1) 151 2398 z) 152 2398 y) 124 2398 = jI R 124 2398 := fun z y => by simp only [m_I_sI, m_L_sI, m_R_sI, m_AI_sI, m_AL_sI, m_AD_sI, m_AR_sI, m_n_sI, m_I_sL, m_L_sL, m_R_sL, m_AI_sL, m_AL_sL, m_AD_sL, m_AR_sL, m_n_sL, m_I_sR, m_L_sR, m_R_sR, m_AI_sR, m_AL_sR, m_AD_sR, m_AR_sR, m_n_sR, m_I_rI, m_L_rI, m_R_rI, m_AI_rI, m_AL_rI, m_AD_rI, m_AR_rI, m_n_rI, m_I_rL, m_L_rL, m_R_rL, m_AI_rL, m_AL_rL, m_AD_rL, m_AR_rL, m_n_rL, m_I_rD, m_L_rD, m_R_rD, m_AI_rD, m_AL_rD, m_AD_rD, m_AR_rD, m_n_rD, m_I_rR, m_L_rR, m_R_rR, m_AI_rR, m_AL_rR, m_AD_rR, m_AR_rR, m_n_rR, true_and, and_true, and_false, false_and, and_self, if_true, if_false, ite_self, Nat.reduceEqDiff, reduceIte, obt, jlt, jbt, jbd_ite, bind_ite]
  have e4 : ∀ z y u, jI (jsI (jsI (jsI (jsI R 150 2398 t1) 151 2398 z) 152 2398 y) 153 2398 u) 125 2398 = jI R 125 2398 := fun z y u => by simp only [m_I_sI, m_L_sI, m_R_sI, m_AI_sI, m_AL_sI, m_AD_sI, m_AR_sI, m_n_sI, m_I_sL, m_L_sL, m_R_sL, m_AI_sL, m_AL_sL, m_AD_sL, m_AR_sL, m_n_sL, m_I_sR, m_L_sR, m_R_sR, m_AI_sR, m_AL_sR, m_AD_sR, m_AR_sR, m_n_sR, m_I_rI, m_L_rI, m_R_rI, m_AI_rI, m_AL_rI, m_AD_rI, m_AR_rI, m_n_rI, m_I_rL, m_L_rL, m_R_rL, m_AI_rL, m_AL_rL, m_AD_rL, m_AR_rL, m_n_rL, m_I_rD, m_L_rD, m_R_rD, m_AI_rD, m_AL_rD, m_AD_rD, m_AR_rD, m_n_rD, m_I_rR, m_L_rR, m_R_rR, m_AI_rR, m_AL_rR, m_AD_rR, m_AR_rR, m_n_rR, true_and, and_true, and_false, false_and, and_self, if_true, if_false, ite_self, Nat.reduceEqDiff, reduceIte, obt, jlt, jbt, jbd_ite, bind_ite]
  rw [e4, e3, e2, e1]
  rfl
theorem fig_end {C1 R1 C2 R2 : jM} (h1 : Rel C1 R1) (hC2 : Lay C2) (hR2 : Lay R2) (hF : Fr (pWk 2018) C1 C2) (hG : Fr qWk R1 R2) (hs : ∀ s, s < 226 → sS R1 R2 s) {r : Nat} {x : Int32} (hr : r < 24) (hcw : CW 2018 r (jI C1 31 1).toInt x C2 R2) :
    ∃ (y : Int32) (C' R' : jM), (if jI C2 7 2018 = 0 then (f_X9_setTo 605 (2023 + 2 * r) C2).bind (fun S52 => f_X11_figure_130 0 S52) else f_X11_figure_130 0 C2) = some (y, C') ∧ (if 0 ≤ x then f_X12_figure_128 2398 x 2398 (-1 : Int32) R2 else f_X12_figure_128 2398 x 2398 (jI R2 127 2398) R2) = some (y, R') ∧ Rel C' R' ∧ Fr pC C1 C' ∧ Fr pR R1 R' := by
  have hFF : isF 2018 := .inl rfl
  obtain ⟨w, p, sc, hE, h6, hcw⟩ := hcw
  obtain ⟨⟨a1, a2, a3⟩, ⟨a4, a5⟩, ⟨a6, a7, a8⟩, ⟨a9, a10, a11⟩, a12, a13⟩ := hE
  have hsc : sc ≤ 24 := by rw [a8]; exact cw_le _ _
  have e31 : jI C2 31 1 = jI C1 31 1 := hF.i (by unfold pWk pBg pW; omega)
  -- what stands in the trace
  have hh : ∀ k, k < sc → ∃ q c z : Nat, q < 24 ∧ c < 8 ∧ jAI C2 2021 k = nI q ∧ jAI C2 2019 q = nI c ∧ jAI R2 2424 k = nI (100 * q + c) ∧ (c = 0 → (z < 1500 ∧ (z ≤ 200 ∨ 226 ≤ z)) ∧ jAI R2 2421 q = nI z ∧ VR (jI C1 31 1).toInt C2 (2023 + 2 * q) R2 z) := fun k hk => by
    obtain ⟨q, q1, q2, q3, q4⟩ := a13 k hk
    rcases a12 q q1 with ⟨z1, -⟩ | ⟨z1, z2, z3, z, z4, z5, z6⟩ | ⟨⟨z1, z1'⟩, z2, z3, z4⟩
    · exact absurd z1 q3
    · refine ⟨q, 0, z, q1, by omega, q2, z1, nI_is (by rw [q4, z1, t_0]; omega) (by omega), fun _ => ⟨⟨by omega, z4.2⟩, z5, z6⟩⟩
    · obtain ⟨c, hc⟩ : ∃ c : Nat, (jAI C2 (2018 + 1) q).toInt = c := ⟨(jAI C2 (2018 + 1) q).toInt.toNat, by omega⟩
      exact ⟨q, c, 0, q1, by omega, q2, nI_is hc (by omega), nI_is (by rw [q4, hc]; omega) (by omega), fun z => absurd hc (by omega)⟩
  have hch : ∃ rr cc ss : Nat → Nat, ∀ k, k < sc → rr k < 24 ∧ cc k < 8 ∧ jAI C2 2021 k = nI (rr k) ∧ jAI C2 2019 (rr k) = nI (cc k) ∧ jAI R2 2424 k = nI (100 * rr k + cc k) ∧ (cc k = 0 → (ss k < 1500 ∧ (ss k ≤ 200 ∨ 226 ≤ ss k)) ∧ jAI R2 2421 (rr k) = nI (ss k) ∧ VR (jI C1 31 1).toInt C2 (2023 + 2 * rr k) R2 (ss k)) := by
    refine ⟨fun k => if h : k < sc then (hh k h).choose else 0, fun k => if h : k < sc then (hh k h).choose_spec.choose else 0, fun k => if h : k < sc then (hh k h).choose_spec.choose_spec.choose else 0, fun k hk => ?_⟩
    simp only [dif_pos hk]
    exact (hh k hk).choose_spec.choose_spec.choose_spec
  obtain ⟨rr, cc, ss, hrc⟩ := hch
  have tr : ∀ t1, ∃ R4, f_X12_figure_128 2398 x 2398 t1 R2 = trE x R4 ∧ Fr qTr (fgS t1 R2) R4 ∧ (∀ z, z < 201 ∨ 201 + sc ≤ z → sS (fgS t1 R2) R4 z) ∧ (∀ i, i < sc → jAI R4 2437 i = jAI R2 2424 i ∧ (cc i = 0 → ∀ n C a, VR n C a R2 (ss i) → VR n C a R4 (201 + i))) := fun t1 => by
    have hL3 : Lay (fgS t1 R2) := hR2.fr (fgS_fr (t1 := t1)) (fun f a z => by omega) (fun a z => by omega)
    have hsf : ∀ z, sS R2 (fgS t1 R2) z := fun z => (fgS_fr (t1 := t1)).sS (fun a h1 h2 => by omega) z
    obtain ⟨R4, g1, g2, g3, g4⟩ := tr_ok hL3 hsc (by rw [fgS_fr.i (by omega)]; exact a7) (rr := rr) (cc := cc) (ss := ss) (fun k hk => by
      obtain ⟨c1, c2, c3, c4, c5, c6⟩ := hrc k hk
      exact ⟨c1, c2, by rw [fgS_fr.ai (by omega)]; exact c5, fun z => ⟨(c6 z).1, by rw [fgS_fr.ai (by omega)]; exact (c6 z).2.1⟩⟩) x sc 1100000 0 (fgS t1 R2) (by omega) (by omega) Fr.refl (fun _ _ => sS.refl) (fun i hi => absurd hi (by omega))
    refine ⟨R4, by rw [fig128]; exact g1, g2, g3, fun i hi => ⟨by rw [(g4 i hi).1, fgS_fr.ai (by omega)], fun hc n C a hv => (g4 i hi).2 hc n C a (hv.c sP.refl sP.refl (hsf _))⟩⟩
  have hrS : ∀ (t1 : Int32) (R4 : jM), Fr qTr (fgS t1 R2) R4 → (∀ i, i < sc → jAI R4 2437 i = jAI R2 2424 i ∧ (cc i = 0 → ∀ n C a, VR n C a R2 (ss i) → VR n C a R4 (201 + i))) → jI C2 8 2018 = t1 → rS C2 R4 := fun t1 R4 g2 g4 h8 => by
    have f : ∀ g, jI R4 g 2398 = jI (fgS t1 R2) g 2398 := fun g => g2.i (by unfold qTr; omega)
    have v150 : jI (fgS t1 R2) 150 2398 = t1 := by unfold fgS; simp only [m_I_sI, m_L_sI, m_R_sI, m_AI_sI, m_AL_sI, m_AD_sI, m_AR_sI, m_n_sI, m_I_sL, m_L_sL, m_R_sL, m_AI_sL, m_AL_sL, m_AD_sL, m_AR_sL, m_n_sL, m_I_sR, m_L_sR, m_R_sR, m_AI_sR, m_AL_sR, m_AD_sR, m_AR_sR, m_n_sR, m_I_rI, m_L_rI, m_R_rI, m_AI_rI, m_AL_rI, m_AD_rI, m_AR_rI, m_n_rI, m_I_rL, m_L_rL, m_R_rL, m_AI_rL, m_AL_rL, m_AD_rL, m_AR_rL, m_n_rL, m_I_rD, m_L_rD, m_R_rD, m_AI_rD, m_AL_rD, m_AD_rD, m_AR_rD, m_n_rD, m_I_rR, m_L_rR, m_R_rR, m_AI_rR, m_AL_rR, m_AD_rR, m_AR_rR, m_n_rR, true_and, and_true, and_false, false_and, and_self, if_true, if_false, ite_self, Nat.reduceEqDiff, reduceIte, obt, jlt, jbt, jbd_ite, bind_ite]
    have v151 : jI (fgS t1 R2) 151 2398 = jI R2 123 2398 := by unfold fgS; simp only [m_I_sI, m_L_sI, m_R_sI, m_AI_sI, m_AL_sI, m_AD_sI, m_AR_sI, m_n_sI, m_I_sL, m_L_sL, m_R_sL, m_AI_sL, m_AL_sL, m_AD_sL, m_AR_sL, m_n_sL, m_I_sR, m_L_sR, m_R_sR, m_AI_sR, m_AL_sR, m_AD_sR, m_AR_sR, m_n_sR, m_I_rI, m_L_rI, m_R_rI, m_AI_rI, m_AL_rI, m_AD_rI, m_AR_rI, m_n_rI, m_I_rL, m_L_rL, m_R_rL, m_AI_rL, m_AL_rL, m_AD_rL, m_AR_rL, m_n_rL, m_I_rD, m_L_rD, m_R_rD, m_AI_rD, m_AL_rD, m_AD_rD, m_AR_rD, m_n_rD, m_I_rR, m_L_rR, m_R_rR, m_AI_rR, m_AL_rR, m_AD_rR, m_AR_rR, m_n_rR, true_and, and_true, and_false, false_and, and_self, if_true, if_false, ite_self, Nat.reduceEqDiff, reduceIte, obt, jlt, jbt, jbd_ite, bind_ite]
    have v152 : jI (fgS t1 R2) 152 2398 = jI R2 133 2398 := by unfold fgS; simp only [m_I_sI, m_L_sI, m_R_sI, m_AI_sI, m_AL_sI, m_AD_sI, m_AR_sI, m_n_sI, m_I_sL, m_L_sL, m_R_sL, m_AI_sL, m_AL_sL, m_AD_sL, m_AR_sL, m_n_sL, m_I_sR, m_L_sR, m_R_sR, m_AI_sR, m_AL_sR, m_AD_sR, m_AR_sR, m_n_sR, m_I_rI, m_L_rI, m_R_rI, m_AI_rI, m_AL_rI, m_AD_rI, m_AR_rI, m_n_rI, m_I_rL, m_L_rL, m_R_rL, m_AI_rL, m_AL_rL, m_AD_rL, m_AR_rL, m_n_rL, m_I_rD, m_L_rD, m_R_rD, m_AI_rD, m_AL_rD, m_AD_rD, m_AR_rD, m_n_rD, m_I_rR, m_L_rR, m_R_rR, m_AI_rR, m_AL_rR, m_AD_rR, m_AR_rR, m_n_rR, true_and, and_true, and_false, false_and, and_self, if_true, if_false, ite_self, Nat.reduceEqDiff, reduceIte, obt, jlt, jbt, jbd_ite, bind_ite]
    have v153 : jI (fgS t1 R2) 153 2398 = jI R2 124 2398 := by unfold fgS; simp only [m_I_sI, m_L_sI, m_R_sI, m_AI_sI, m_AL_sI, m_AD_sI, m_AR_sI, m_n_sI, m_I_sL, m_L_sL, m_R_sL, m_AI_sL, m_AL_sL, m_AD_sL, m_AR_sL, m_n_sL, m_I_sR, m_L_sR, m_R_sR, m_AI_sR, m_AL_sR, m_AD_sR, m_AR_sR, m_n_sR, m_I_rI, m_L_rI, m_R_rI, m_AI_rI, m_AL_rI, m_AD_rI, m_AR_rI, m_n_rI, m_I_rL, m_L_rL, m_R_rL, m_AI_rL, m_AL_rL, m_AD_rL, m_AR_rL, m_n_rL, m_I_rD, m_L_rD, m_R_rD, m_AI_rD, m_AL_rD, m_AD_rD, m_AR_rD, m_n_rD, m_I_rR, m_L_rR, m_R_rR, m_AI_rR, m_AL_rR, m_AD_rR, m_AR_rR, m_n_rR, true_and, and_true, and_false, false_and, and_self, if_true, if_false, ite_self, Nat.reduceEqDiff, reduceIte, obt, jlt, jbt, jbd_ite, bind_ite]
    have v154 : jI (fgS t1 R2) 154 2398 = jI R2 125 2398 := by unfold fgS; simp only [m_I_sI, m_L_sI, m_R_sI, m_AI_sI, m_AL_sI, m_AD_sI, m_AR_sI, m_n_sI, m_I_sL, m_L_sL, m_R_sL, m_AI_sL, m_AL_sL, m_AD_sL, m_AR_sL, m_n_sL, m_I_sR, m_L_sR, m_R_sR, m_AI_sR, m_AL_sR, m_AD_sR, m_AR_sR, m_n_sR, m_I_rI, m_L_rI, m_R_rI, m_AI_rI, m_AL_rI, m_AD_rI, m_AR_rI, m_n_rI, m_I_rL, m_L_rL, m_R_rL, m_AI_rL, m_AL_rL, m_AD_rL, m_AR_rL, m_n_rL, m_I_rD, m_L_rD, m_R_rD, m_AI_rD, m_AL_rD, m_AD_rD, m_AR_rD, m_n_rD, m_I_rR, m_L_rR, m_R_rR, m_AI_rR, m_AL_rR, m_AD_rR, m_AR_rR, m_n_rR, true_and, and_true, and_false, false_and, and_self, if_true, if_false, ite_self, Nat.reduceEqDiff, reduceIte, obt, jlt, jbt, jbd_ite, bind_ite]
    have i16 : (jI C2 16 2018).toInt = sc := by rw [a6, nI_toInt (by omega)]
    refine ⟨by rw [f, v150]; exact h8, by rw [f, v151, a1, a2], by rw [f, v152, a6, a7], by rw [f, v153]; exact a4, by rw [f, v154]; exact a5, ⟨by omega, by omega⟩, fun k hk => ?_⟩
    obtain ⟨c1, c2, c3, c4, c5, c6⟩ := hrc k (by omega)
    have ec : (jAI C2 2019 (rr k)).toInt = cc k := by rw [c4, nI_toInt (by omega)]
    refine ⟨rr k, c1, by rw [c3, nI_toInt (by omega)], ⟨by omega, by omega⟩, by rw [(g4 k (by omega)).1, c5, nI_toInt (by omega), ec]; omega, fun z => ?_⟩
    have hz : cc k = 0 := by rw [z, t_0] at ec; omega
    rw [e31]
    exact (g4 k (by omega)).2 hz _ _ _ (c6 hz).2.2
  have hFG : Fr pGa C1 C2 := hF.mono (fun t f a z => pWk_G hFF z)
  rcases hcw with ⟨q1, s, q2, q3, q4⟩ | ⟨q1, c, q2⟩
  · have hx0 : (0 : Int32) ≤ x := by rw [q3, i_le, t_0, nI_toInt (by omega)]; omega
    obtain ⟨R4, g1, g2, g3, g4⟩ := tr (-1)
    have hL4 : Lay R4 := (hR2.fr (fgS_fr (t1 := -1)) (fun f a z => by omega) (fun a z => by omega)).frTr g2
    have hsf : ∀ z, sS R2 (fgS (-1) R2) z := fun z => (fgS_fr (t1 := -1)).sS (fun a h1 h2 => by omega) z
    obtain ⟨R5, u1, u2, u3, u4⟩ := copy_vr hL4 (s := 0) (q := s) (by omega) (by omega) (v := 0) (w := x) rfl (by rw [q3, nI_toInt (by omega)])
    obtain ⟨C3, m1, m2, m3⟩ := setTo_vr hC2 k_605 (hFF.fig hr) (by omega) q4
    have e7 : jI C3 7 2018 = 0 := by rw [m2.i (by unfold pV; omega)]; exact q1.1
    have hS4 := hrS (-1) R4 g2 g4 q1.2.1
    have hG5 : Fr qGa R1 R5 := (((hG.mono (fun t f a z => qWk_G z)).trans (fgS_fr.mono (fun t f a z => by unfold qGa; omega))).trans (g2.mono (fun t f a z => by unfold qTr at z; unfold qGa; omega))).trans (u2.mono (fun t f a z => by unfold qV at z; unfold qGa; omega))
    have hF3 : Fr pGa C1 C3 := hFG.trans (m2.mono (fun t f a z => by unfold pV at z; unfold pGa; omega))
    obtain ⟨r1, r2, r3⟩ := Rel.gen h1 hF3 hG5 (fun z z1 z2 => (((hs z (by omega)).trans (hsf z)).trans (g3 z (by omega))).trans (u3 z (by omega))) (by
      unfold rD
      rw [m2.i (by unfold pV; omega), e31]
      exact u4 _ _ _ (m3.c sP.refl sP.refl ((hsf s).trans (g3 s (by omega))))) (rS_f m2 u2 (fun t f a => by unfold cS pV; omega) (fun t f a => by unfold mS qV; omega) (fun z z1 z2 => u3 z (by omega)) hS4)
    refine ⟨0, C3, R5, ?_, ?_, r1, r2, r3⟩
    · rw [if_pos q1.1, m1, obt]
      unfold f_X11_figure_130
      rw [if_pos k_0, ly_75 (hC2.frG (m2.mono (fun t f a z => by unfold pV at z; unfold pGa; omega))), obt, if_pos k_2018, e7]
    · rw [if_pos hx0, g1]
      unfold trE
      rw [if_pos hx0, u1, obt]
  · subst q1
    obtain ⟨fc1, fc2, fc3, fc4⟩ := q2
    obtain ⟨R4, g1, g2, g3, g4⟩ := tr (jI R2 127 2398)
    have hsf : ∀ z, sS R2 (fgS (jI R2 127 2398) R2) z := fun z => (fgS_fr (t1 := jI R2 127 2398)).sS (fun a h1 h2 => by omega) z
    have hS4 := hrS _ R4 g2 g4 fc4
    have hG5 : Fr qGa R1 R4 := ((hG.mono (fun t f a z => qWk_G z)).trans (fgS_fr.mono (fun t f a z => by unfold qGa; omega))).trans (g2.mono (fun t f a z => by unfold qTr at z; unfold qGa; omega))
    have hs0 : ∀ z, z < 201 → sS R1 R4 z := fun z hz => ((hs z (by omega)).trans (hsf z)).trans (g3 z (by omega))
    obtain ⟨r1, r2, r3⟩ := Rel.gen h1 hFG hG5 (fun z z1 z2 => hs0 z (by omega)) (by
      have hd := h1.D
      unfold rD at *
      rw [e31]
      exact hd.c (hF.sP (fun t f => by unfold pWk pBg pW; omega)) (hF.sP (fun t f => by unfold pWk pBg pW; omega)) (hs0 0 (by omega))) hS4
    have hc0 : ¬ c = 0 := fun z => by rw [z, t_0] at fc1; omega
    refine ⟨c, C2, R4, ?_, ?_, r1, r2, r3⟩
    · rw [if_neg (by rw [fc2]; exact hc0)]
      unfold f_X11_figure_130
      rw [if_pos k_0, ly_75 hC2, obt, if_pos k_2018, fc2]
    · rw [if_neg (by decide), g1]
      unfold trE
      rw [if_neg (by decide), g2.i (by unfold qTr; omega), fgS_fr.i (by omega), fc3]

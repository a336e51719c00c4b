/-! PURE: what an act leaves: a new VALUE, or a FAILURE -/
theorem jbt {α β : Type} {x : α} {S : jM} {k : α → jM → Option β} : jbd (some (x, S)) k = k x S := by
  have h : jbd (some (x, S)) k = k x S := by rfl
  exact h
def qK (t f a : Nat) : Prop := (t = 0 ∧ (f = 92 ∨ f = 126 ∨ f = 127) ∧ a = 2398) ∨ (t = 3 ∧ ((2399 ≤ a ∧ a ≤ 2402) ∨ a = 2426))
theorem qV_K {t f a : Nat} (h : qV t f a) : qK t f a := by unfold qV at h; unfold qK; omega
theorem Lay.frK {R R' : jM} (h : Lay R) (hF : Fr qK R R') : Lay R' := h.fr hF (fun f a z => by unfold qK at z; omega) (fun a z => by have := k16r a; unfold qK at z; omega)
def OpR (n : Int) (C C' : jM) (v : Nat) (R R' : jM) (p : Nat) (fl x : Int32) : Prop :=
  Fr (pV v) C C' ∧ Fr qK R R' ∧ (∀ s, s < p → sS R R' s) ∧
  ((fl = 0 ∧ ∃ s p' : Nat, x.toInt = s ∧ (s < p' ∧ (s < p → (s ≤ 200 ∨ 226 ≤ s))) ∧ p ≤ p' ∧ p' ≤ p + 1 ∧ jI R' 92 2398 = nI p' ∧ VR n C' v R' s ∧ jI R' 126 2398 = jI R 126 2398 ∧ jI R' 127 2398 = jI R 127 2398) ∨
   (1 ≤ fl.toInt ∧ fl.toInt ≤ 6 ∧ x = -1 ∧ jI R' 92 2398 = nI p ∧ jI R' 126 2398 = fl ∧ jI R' 127 2398 = jI R 122 2398))
theorem upd_ne {α : Type} {f : Nat → α} {i j : Nat} {v : α} (h : j ≠ i) (u : (Nat → α) → Nat → α → Nat → α) (hu : ∀ g i v j, u g i v j = if j = i then v else g j) : u f i v j = f j := by rw [hu, if_neg h]
theorem made_ok {R : jM} (hR : Lay R) {p : Nat} (hp : jI R 92 2398 = nI p) (hp2 : p < 1500) (so n : Int32) :
    ∃ R' : jM, f_X12_made 2398 so n R = some (nI p, R') ∧ Fr qK R R' ∧ jI R' 92 2398 = nI (p + 1) ∧ jI R' 126 2398 = jI R 126 2398 ∧ jI R' 127 2398 = jI R 127 2398 ∧ jAI R' 2399 = upd (jAI R 2399) p so ∧ jAI R' 2400 = upd (jAI R 2400) p n ∧ (∀ j : Nat, jAL R' 2401 j = if 12 * p ≤ j ∧ j < 12 * p + 12 then (if f_X12_isKin so = 0 then 0 else -1) else jAL R 2401 j) ∧ (∀ j : Nat, jAD R' 2402 j = if 12 * p ≤ j ∧ j < 12 * p + 12 then 0 else jAD R 2402 j) := by
  have hpi : (nI p).toInt = p := nI_toInt (by omega)
  have hF : Fr qK R (jsI R 92 2398 (nI p + 1)) := (Fr.refl).sI (by unfold qK; omega)
  obtain ⟨R', g1, g2, g3, g4, g5, g6⟩ := shape_ok (hR.frK hF) (v := nI p) (so := so) (n := n) hpi hp2
  refine ⟨R', ?_, hF.trans (g2.mono (fun _ _ _ => qV_K)), ?_, ?_, ?_, g3, g4, g5, g6⟩
  · unfold f_X12_made
    simp only [hp, k_2398, true_and, and_true, and_false, false_and, and_self, if_true, if_false, ite_self, Nat.reduceEqDiff, reduceIte, obt, jlt, jbt, jbd_ite, bind_ite]
    rw [g1]
    simp only [true_and, and_true, and_false, false_and, and_self, if_true, if_false, ite_self, Nat.reduceEqDiff, reduceIte, obt, jlt, jbt, jbd_ite, bind_ite]
  · rw [g2.i (by unfold qV; omega)]
    simp only [m_I_sI, m_L_sI, m_R_sI, m_AI_sI, m_AL_sI, m_AD_sI, m_AR_sI, m_n_sI, m_I_sL, m_L_sL, m_R_sL, m_AI_sL, m_AL_sL, m_AD_sL, m_AR_sL, m_n_sL, m_I_sR, m_L_sR, m_R_sR, m_AI_sR, m_AL_sR, m_AD_sR, m_AR_sR, m_n_sR, m_I_rI, m_L_rI, m_R_rI, m_AI_rI, m_AL_rI, m_AD_rI, m_AR_rI, m_n_rI, m_I_rL, m_L_rL, m_R_rL, m_AI_rL, m_AL_rL, m_AD_rL, m_AR_rL, m_n_rL, m_I_rD, m_L_rD, m_R_rD, m_AI_rD, m_AL_rD, m_AD_rD, m_AR_rD, m_n_rD, m_I_rR, m_L_rR, m_R_rR, m_AI_rR, m_AL_rR, m_AD_rR, m_AR_rR, m_n_rR, true_and, and_true, and_false, false_and, and_self, if_true, if_false, ite_self, Nat.reduceEqDiff, reduceIte, obt, jlt, jbt, jbd_ite, bind_ite]
    rw [i_eq, i_add1 (by omega), hpi, nI_toInt (by omega)]; rfl
  · rw [g2.i (by unfold qV; omega)]; simp only [m_I_sI, m_L_sI, m_R_sI, m_AI_sI, m_AL_sI, m_AD_sI, m_AR_sI, m_n_sI, m_I_sL, m_L_sL, m_R_sL, m_AI_sL, m_AL_sL, m_AD_sL, m_AR_sL, m_n_sL, m_I_sR, m_L_sR, m_R_sR, m_AI_sR, m_AL_sR, m_AD_sR, m_AR_sR, m_n_sR, m_I_rI, m_L_rI, m_R_rI, m_AI_rI, m_AL_rI, m_AD_rI, m_AR_rI, m_n_rI, m_I_rL, m_L_rL, m_R_rL, m_AI_rL, m_AL_rL, m_AD_rL, m_AR_rL, m_n_rL, m_I_rD, m_L_rD, m_R_rD, m_AI_rD, m_AL_rD, m_AD_rD, m_AR_rD, m_n_rD, m_I_rR, m_L_rR, m_R_rR, m_AI_rR, m_AL_rR, m_AD_rR, m_AR_rR, m_n_rR, true_and, and_true, and_false, false_and, and_self, if_true, if_false, ite_self, Nat.reduceEqDiff, reduceIte, obt, jlt, jbt, jbd_ite, bind_ite]
  · rw [g2.i (by unfold qV; omega)]; simp only [m_I_sI, m_L_sI, m_R_sI, m_AI_sI, m_AL_sI, m_AD_sI, m_AR_sI, m_n_sI, m_I_sL, m_L_sL, m_R_sL, m_AI_sL, m_AL_sL, m_AD_sL, m_AR_sL, m_n_sL, m_I_sR, m_L_sR, m_R_sR, m_AI_sR, m_AL_sR, m_AD_sR, m_AR_sR, m_n_sR, m_I_rI, m_L_rI, m_R_rI, m_AI_rI, m_AL_rI, m_AD_rI, m_AR_rI, m_n_rI, m_I_rL, m_L_rL, m_R_rL, m_AI_rL, m_AL_rL, m_AD_rL, m_AR_rL, m_n_rL, m_I_rD, m_L_rD, m_R_rD, m_AI_rD, m_AL_rD, m_AD_rD, m_AR_rD, m_n_rD, m_I_rR, m_L_rR, m_R_rR, m_AI_rR, m_AL_rR, m_AD_rR, m_AR_rR, m_n_rR, true_and, and_true, and_false, false_and, and_self, if_true, if_false, ite_self, Nat.reduceEqDiff, reduceIte, obt, jlt, jbt, jbd_ite, bind_ite]
theorem i12p {p : Nat} (hp2 : p < 1500) : ((12 : Int32) * nI p).toInt = ((12 * p : Nat) : Int) := by
  have hpi : (nI p).toInt = p := nI_toInt (by omega)
  rw [i_mul (by rw [hpi, show (12 : Int32).toInt = 12 from rfl]; omega) (by rw [hpi, show (12 : Int32).toInt = 12 from rfl]; omega), hpi, show (12 : Int32).toInt = 12 from rfl]; omega
theorem c12p {p : Nat} (hp2 : p < 1500) : ((12 : Int32) * nI p).toNatClampNeg = 12 * p := by rw [i_cl, i12p hp2]; omega
theorem a12p {p : Nat} (hp2 : p < 1500) : jA 2401 14 ((12 : Int32) * nI p) = true ∧ jA 2402 12 ((12 : Int32) * nI p) = true := by
  have h := i12p hp2
  exact ⟨jA_iff.mpr ⟨k_2401, by omega, by rw [ln_2401]; omega⟩, jA_iff.mpr ⟨k_2402, by omega, by rw [ln_2402]; omega⟩⟩
theorem apn {p : Nat} (hp2 : p < 1500) : jA 2399 13 (nI p) = true ∧ jA 2400 13 (nI p) = true ∧ (nI p).toNatClampNeg = p := by
  have hpi : (nI p).toInt = p := nI_toInt (by omega)
  exact ⟨jA_iff.mpr ⟨k_2399, by omega, by rw [ln_2399]; omega⟩, jA_iff.mpr ⟨k_2400, by omega, by rw [ln_2400]; omega⟩, by rw [i_cl]; omega⟩
theorem made_sS {R R' : jM} {p : Nat} {so n : Int32} (g3 : jAI R' 2399 = upd (jAI R 2399) p so) (g4 : jAI R' 2400 = upd (jAI R 2400) p n) (g5 : ∀ j : Nat, ¬ (12 * p ≤ j ∧ j < 12 * p + 12) → jAL R' 2401 j = jAL R 2401 j) (g6 : ∀ j : Nat, ¬ (12 * p ≤ j ∧ j < 12 * p + 12) → jAD R' 2402 j = jAD R 2402 j) {s : Nat} (h : s < p) : sS R R' s := by
  refine ⟨?_, ?_, fun j hj => ⟨?_, ?_⟩⟩
  · rw [g3, upd_if, if_neg (by omega)]
  · rw [g4, upd_if, if_neg (by omega)]
  · exact g5 _ (by omega)
  · exact g6 _ (by omega)
theorem kin0 {so : Int32} (h : so.toInt < 5) : f_X12_isKin so = 0 := p_isKin.mpr (by omega)
theorem ofWhole_ok {R : jM} (hR : Lay R) {p : Nat} (hp : jI R 92 2398 = nI p) (hp2 : p < 1500) (w : Int64) :
    ∃ R' : jM, f_X12_ofWhole 2398 w R = some (nI p, R') ∧ Fr qK R R' ∧ jI R' 92 2398 = nI (p + 1) ∧ jI R' 126 2398 = jI R 126 2398 ∧ jI R' 127 2398 = jI R 127 2398 ∧ jAI R' 2399 p = 0 ∧ jAI R' 2400 p = 0 ∧ jAL R' 2401 (12 * p) = w ∧ ∀ s, s < p → sS R R' s := by
  obtain ⟨R1, g1, g2, g3, g4, g5, g6, g7, g8, g9⟩ := made_ok hR hp hp2 0 0
  have hR1 := hR.frK g2
  have hF : Fr qK R1 (jrL R1 2401 (vp_updL (jAL R1 2401) (12 * p) w)) := (Fr.refl).rL (by unfold qK; omega)
  refine ⟨jrL R1 2401 (vp_updL (jAL R1 2401) (12 * p) w), ?_, g2.trans hF, g3, g4, g5, ?_, ?_, ?_, ?_⟩
  · unfold f_X12_ofWhole
    rw [g1]
    simp only [k_2398, ly_90 hR1, (a12p hp2).1, c12p hp2, true_and, and_true, and_false, false_and, and_self, if_true, if_false, ite_self, Nat.reduceEqDiff, reduceIte, obt, jlt, jbt, jbd_ite, bind_ite]
  · simp only [m_I_sI, m_L_sI, m_R_sI, m_AI_sI, m_AL_sI, m_AD_sI, m_AR_sI, m_n_sI, m_I_sL, m_L_sL, m_R_sL, m_AI_sL, m_AL_sL, m_AD_sL, m_AR_sL, m_n_sL, m_I_sR, m_L_sR, m_R_sR, m_AI_sR, m_AL_sR, m_AD_sR, m_AR_sR, m_n_sR, m_I_rI, m_L_rI, m_R_rI, m_AI_rI, m_AL_rI, m_AD_rI, m_AR_rI, m_n_rI, m_I_rL, m_L_rL, m_R_rL, m_AI_rL, m_AL_rL, m_AD_rL, m_AR_rL, m_n_rL, m_I_rD, m_L_rD, m_R_rD, m_AI_rD, m_AL_rD, m_AD_rD, m_AR_rD, m_n_rD, m_I_rR, m_L_rR, m_R_rR, m_AI_rR, m_AL_rR, m_AD_rR, m_AR_rR, m_n_rR]; rw [g6, upd_if, if_pos rfl]
  · simp only [m_I_sI, m_L_sI, m_R_sI, m_AI_sI, m_AL_sI, m_AD_sI, m_AR_sI, m_n_sI, m_I_sL, m_L_sL, m_R_sL, m_AI_sL, m_AL_sL, m_AD_sL, m_AR_sL, m_n_sL, m_I_sR, m_L_sR, m_R_sR, m_AI_sR, m_AL_sR, m_AD_sR, m_AR_sR, m_n_sR, m_I_rI, m_L_rI, m_R_rI, m_AI_rI, m_AL_rI, m_AD_rI, m_AR_rI, m_n_rI, m_I_rL, m_L_rL, m_R_rL, m_AI_rL, m_AL_rL, m_AD_rL, m_AR_rL, m_n_rL, m_I_rD, m_L_rD, m_R_rD, m_AI_rD, m_AL_rD, m_AD_rD, m_AR_rD, m_n_rD, m_I_rR, m_L_rR, m_R_rR, m_AI_rR, m_AL_rR, m_AD_rR, m_AR_rR, m_n_rR]; rw [g7, upd_if, if_pos rfl]
  · simp only [m_I_sI, m_L_sI, m_R_sI, m_AI_sI, m_AL_sI, m_AD_sI, m_AR_sI, m_n_sI, m_I_sL, m_L_sL, m_R_sL, m_AI_sL, m_AL_sL, m_AD_sL, m_AR_sL, m_n_sL, m_I_sR, m_L_sR, m_R_sR, m_AI_sR, m_AL_sR, m_AD_sR, m_AR_sR, m_n_sR, m_I_rI, m_L_rI, m_R_rI, m_AI_rI, m_AL_rI, m_AD_rI, m_AR_rI, m_n_rI, m_I_rL, m_L_rL, m_R_rL, m_AI_rL, m_AL_rL, m_AD_rL, m_AR_rL, m_n_rL, m_I_rD, m_L_rD, m_R_rD, m_AI_rD, m_AL_rD, m_AD_rD, m_AR_rD, m_n_rD, m_I_rR, m_L_rR, m_R_rR, m_AI_rR, m_AL_rR, m_AD_rR, m_AR_rR, m_n_rR, true_and, and_true, and_false, false_and, and_self, if_true, if_false, ite_self, Nat.reduceEqDiff, reduceIte, obt, jlt, jbt, jbd_ite, bind_ite]; rw [updL_if, if_pos rfl]
  · intro s hs
    refine made_sS (so := 0) (n := 0) (by simp only [m_I_sI, m_L_sI, m_R_sI, m_AI_sI, m_AL_sI, m_AD_sI, m_AR_sI, m_n_sI, m_I_sL, m_L_sL, m_R_sL, m_AI_sL, m_AL_sL, m_AD_sL, m_AR_sL, m_n_sL, m_I_sR, m_L_sR, m_R_sR, m_AI_sR, m_AL_sR, m_AD_sR, m_AR_sR, m_n_sR, m_I_rI, m_L_rI, m_R_rI, m_AI_rI, m_AL_rI, m_AD_rI, m_AR_rI, m_n_rI, m_I_rL, m_L_rL, m_R_rL, m_AI_rL, m_AL_rL, m_AD_rL, m_AR_rL, m_n_rL, m_I_rD, m_L_rD, m_R_rD, m_AI_rD, m_AL_rD, m_AD_rD, m_AR_rD, m_n_rD, m_I_rR, m_L_rR, m_R_rR, m_AI_rR, m_AL_rR, m_AD_rR, m_AR_rR, m_n_rR]; exact g6) (by simp only [m_I_sI, m_L_sI, m_R_sI, m_AI_sI, m_AL_sI, m_AD_sI, m_AR_sI, m_n_sI, m_I_sL, m_L_sL, m_R_sL, m_AI_sL, m_AL_sL, m_AD_sL, m_AR_sL, m_n_sL, m_I_sR, m_L_sR, m_R_sR, m_AI_sR, m_AL_sR, m_AD_sR, m_AR_sR, m_n_sR, m_I_rI, m_L_rI, m_R_rI, m_AI_rI, m_AL_rI, m_AD_rI, m_AR_rI, m_n_rI, m_I_rL, m_L_rL, m_R_rL, m_AI_rL, m_AL_rL, m_AD_rL, m_AR_rL, m_n_rL, m_I_rD, m_L_rD, m_R_rD, m_AI_rD, m_AL_rD, m_AD_rD, m_AR_rD, m_n_rD, m_I_rR, m_L_rR, m_R_rR, m_AI_rR, m_AL_rR, m_AD_rR, m_AR_rR, m_n_rR]; exact g7) (fun j hj => ?_) (fun j hj => ?_) hs
    · simp only [m_I_sI, m_L_sI, m_R_sI, m_AI_sI, m_AL_sI, m_AD_sI, m_AR_sI, m_n_sI, m_I_sL, m_L_sL, m_R_sL, m_AI_sL, m_AL_sL, m_AD_sL, m_AR_sL, m_n_sL, m_I_sR, m_L_sR, m_R_sR, m_AI_sR, m_AL_sR, m_AD_sR, m_AR_sR, m_n_sR, m_I_rI, m_L_rI, m_R_rI, m_AI_rI, m_AL_rI, m_AD_rI, m_AR_rI, m_n_rI, m_I_rL, m_L_rL, m_R_rL, m_AI_rL, m_AL_rL, m_AD_rL, m_AR_rL, m_n_rL, m_I_rD, m_L_rD, m_R_rD, m_AI_rD, m_AL_rD, m_AD_rD, m_AR_rD, m_n_rD, m_I_rR, m_L_rR, m_R_rR, m_AI_rR, m_AL_rR, m_AD_rR, m_AR_rR, m_n_rR, true_and, and_true, and_false, false_and, and_self, if_true, if_false, ite_self, Nat.reduceEqDiff, reduceIte, obt, jlt, jbt, jbd_ite, bind_ite]; rw [updL_if, if_neg (by omega), g8, if_neg hj]
    · simp only [m_I_sI, m_L_sI, m_R_sI, m_AI_sI, m_AL_sI, m_AD_sI, m_AR_sI, m_n_sI, m_I_sL, m_L_sL, m_R_sL, m_AI_sL, m_AL_sL, m_AD_sL, m_AR_sL, m_n_sL, m_I_sR, m_L_sR, m_R_sR, m_AI_sR, m_AL_sR, m_AD_sR, m_AR_sR, m_n_sR, m_I_rI, m_L_rI, m_R_rI, m_AI_rI, m_AL_rI, m_AD_rI, m_AR_rI, m_n_rI, m_I_rL, m_L_rL, m_R_rL, m_AI_rL, m_AL_rL, m_AD_rL, m_AR_rL, m_n_rL, m_I_rD, m_L_rD, m_R_rD, m_AI_rD, m_AL_rD, m_AD_rD, m_AR_rD, m_n_rD, m_I_rR, m_L_rR, m_R_rR, m_AI_rR, m_AL_rR, m_AD_rR, m_AR_rR, m_n_rR]; rw [g9, if_neg hj]
theorem ofReal_ok {R : jM} (hR : Lay R) {p : Nat} (hp : jI R 92 2398 = nI p) (hp2 : p < 1500) (d : UInt64) :
    ∃ R' : jM, f_X12_ofReal 2398 d R = some (nI p, R') ∧ Fr qK R R' ∧ jI R' 92 2398 = nI (p + 1) ∧ jI R' 126 2398 = jI R 126 2398 ∧ jI R' 127 2398 = jI R 127 2398 ∧ jAI R' 2399 p = 1 ∧ jAI R' 2400 p = 0 ∧ jAD R' 2402 (12 * p) = d ∧ ∀ s, s < p → sS R R' s := by
  obtain ⟨R1, g1, g2, g3, g4, g5, g6, g7, g8, g9⟩ := made_ok hR hp hp2 1 0
  have hR1 := hR.frK g2
  have hF : Fr qK R1 (jrD R1 2402 (vf_upd (jAD R1 2402) (12 * p) d)) := (Fr.refl).rD (by unfold qK; omega)
  refine ⟨jrD R1 2402 (vf_upd (jAD R1 2402) (12 * p) d), ?_, g2.trans hF, g3, g4, g5, ?_, ?_, ?_, ?_⟩
  · unfold f_X12_ofReal
    rw [g1]
    simp only [k_2398, ly_91 hR1, (a12p hp2).2, c12p hp2, true_and, and_true, and_false, false_and, and_self, if_true, if_false, ite_self, Nat.reduceEqDiff, reduceIte, obt, jlt, jbt, jbd_ite, bind_ite]
  · simp only [m_I_sI, m_L_sI, m_R_sI, m_AI_sI, m_AL_sI, m_AD_sI, m_AR_sI, m_n_sI, m_I_sL, m_L_sL, m_R_sL, m_AI_sL, m_AL_sL, m_AD_sL, m_AR_sL, m_n_sL, m_I_sR, m_L_sR, m_R_sR, m_AI_sR, m_AL_sR, m_AD_sR, m_AR_sR, m_n_sR, m_I_rI, m_L_rI, m_R_rI, m_AI_rI, m_AL_rI, m_AD_rI, m_AR_rI, m_n_rI, m_I_rL, m_L_rL, m_R_rL, m_AI_rL, m_AL_rL, m_AD_rL, m_AR_rL, m_n_rL, m_I_rD, m_L_rD, m_R_rD, m_AI_rD, m_AL_rD, m_AD_rD, m_AR_rD, m_n_rD, m_I_rR, m_L_rR, m_R_rR, m_AI_rR, m_AL_rR, m_AD_rR, m_AR_rR, m_n_rR]; rw [g6, upd_if, if_pos rfl]
  · simp only [m_I_sI, m_L_sI, m_R_sI, m_AI_sI, m_AL_sI, m_AD_sI, m_AR_sI, m_n_sI, m_I_sL, m_L_sL, m_R_sL, m_AI_sL, m_AL_sL, m_AD_sL, m_AR_sL, m_n_sL, m_I_sR, m_L_sR, m_R_sR, m_AI_sR, m_AL_sR, m_AD_sR, m_AR_sR, m_n_sR, m_I_rI, m_L_rI, m_R_rI, m_AI_rI, m_AL_rI, m_AD_rI, m_AR_rI, m_n_rI, m_I_rL, m_L_rL, m_R_rL, m_AI_rL, m_AL_rL, m_AD_rL, m_AR_rL, m_n_rL, m_I_rD, m_L_rD, m_R_rD, m_AI_rD, m_AL_rD, m_AD_rD, m_AR_rD, m_n_rD, m_I_rR, m_L_rR, m_R_rR, m_AI_rR, m_AL_rR, m_AD_rR, m_AR_rR, m_n_rR]; rw [g7, upd_if, if_pos rfl]
  · simp only [m_I_sI, m_L_sI, m_R_sI, m_AI_sI, m_AL_sI, m_AD_sI, m_AR_sI, m_n_sI, m_I_sL, m_L_sL, m_R_sL, m_AI_sL, m_AL_sL, m_AD_sL, m_AR_sL, m_n_sL, m_I_sR, m_L_sR, m_R_sR, m_AI_sR, m_AL_sR, m_AD_sR, m_AR_sR, m_n_sR, m_I_rI, m_L_rI, m_R_rI, m_AI_rI, m_AL_rI, m_AD_rI, m_AR_rI, m_n_rI, m_I_rL, m_L_rL, m_R_rL, m_AI_rL, m_AL_rL, m_AD_rL, m_AR_rL, m_n_rL, m_I_rD, m_L_rD, m_R_rD, m_AI_rD, m_AL_rD, m_AD_rD, m_AR_rD, m_n_rD, m_I_rR, m_L_rR, m_R_rR, m_AI_rR, m_AL_rR, m_AD_rR, m_AR_rR, m_n_rR, true_and, and_true, and_false, false_and, and_self, if_true, if_false, ite_self, Nat.reduceEqDiff, reduceIte, obt, jlt, jbt, jbd_ite, bind_ite]; rw [updD_if, if_pos rfl]
  · intro s hs
    refine made_sS (so := 1) (n := 0) (by simp only [m_I_sI, m_L_sI, m_R_sI, m_AI_sI, m_AL_sI, m_AD_sI, m_AR_sI, m_n_sI, m_I_sL, m_L_sL, m_R_sL, m_AI_sL, m_AL_sL, m_AD_sL, m_AR_sL, m_n_sL, m_I_sR, m_L_sR, m_R_sR, m_AI_sR, m_AL_sR, m_AD_sR, m_AR_sR, m_n_sR, m_I_rI, m_L_rI, m_R_rI, m_AI_rI, m_AL_rI, m_AD_rI, m_AR_rI, m_n_rI, m_I_rL, m_L_rL, m_R_rL, m_AI_rL, m_AL_rL, m_AD_rL, m_AR_rL, m_n_rL, m_I_rD, m_L_rD, m_R_rD, m_AI_rD, m_AL_rD, m_AD_rD, m_AR_rD, m_n_rD, m_I_rR, m_L_rR, m_R_rR, m_AI_rR, m_AL_rR, m_AD_rR, m_AR_rR, m_n_rR]; exact g6) (by simp only [m_I_sI, m_L_sI, m_R_sI, m_AI_sI, m_AL_sI, m_AD_sI, m_AR_sI, m_n_sI, m_I_sL, m_L_sL, m_R_sL, m_AI_sL, m_AL_sL, m_AD_sL, m_AR_sL, m_n_sL, m_I_sR, m_L_sR, m_R_sR, m_AI_sR, m_AL_sR, m_AD_sR, m_AR_sR, m_n_sR, m_I_rI, m_L_rI, m_R_rI, m_AI_rI, m_AL_rI, m_AD_rI, m_AR_rI, m_n_rI, m_I_rL, m_L_rL, m_R_rL, m_AI_rL, m_AL_rL, m_AD_rL, m_AR_rL, m_n_rL, m_I_rD, m_L_rD, m_R_rD, m_AI_rD, m_AL_rD, m_AD_rD, m_AR_rD, m_n_rD, m_I_rR, m_L_rR, m_R_rR, m_AI_rR, m_AL_rR, m_AD_rR, m_AR_rR, m_n_rR]; exact g7) (fun j hj => ?_) (fun j hj => ?_) hs
    · simp only [m_I_sI, m_L_sI, m_R_sI, m_AI_sI, m_AL_sI, m_AD_sI, m_AR_sI, m_n_sI, m_I_sL, m_L_sL, m_R_sL, m_AI_sL, m_AL_sL, m_AD_sL, m_AR_sL, m_n_sL, m_I_sR, m_L_sR, m_R_sR, m_AI_sR, m_AL_sR, m_AD_sR, m_AR_sR, m_n_sR, m_I_rI, m_L_rI, m_R_rI, m_AI_rI, m_AL_rI, m_AD_rI, m_AR_rI, m_n_rI, m_I_rL, m_L_rL, m_R_rL, m_AI_rL, m_AL_rL, m_AD_rL, m_AR_rL, m_n_rL, m_I_rD, m_L_rD, m_R_rD, m_AI_rD, m_AL_rD, m_AD_rD, m_AR_rD, m_n_rD, m_I_rR, m_L_rR, m_R_rR, m_AI_rR, m_AL_rR, m_AD_rR, m_AR_rR, m_n_rR]; rw [g8, if_neg hj]
    · simp only [m_I_sI, m_L_sI, m_R_sI, m_AI_sI, m_AL_sI, m_AD_sI, m_AR_sI, m_n_sI, m_I_sL, m_L_sL, m_R_sL, m_AI_sL, m_AL_sL, m_AD_sL, m_AR_sL, m_n_sL, m_I_sR, m_L_sR, m_R_sR, m_AI_sR, m_AL_sR, m_AD_sR, m_AR_sR, m_n_sR, m_I_rI, m_L_rI, m_R_rI, m_AI_rI, m_AL_rI, m_AD_rI, m_AR_rI, m_n_rI, m_I_rL, m_L_rL, m_R_rL, m_AI_rL, m_AL_rL, m_AD_rL, m_AR_rL, m_n_rL, m_I_rD, m_L_rD, m_R_rD, m_AI_rD, m_AL_rD, m_AD_rD, m_AR_rD, m_n_rD, m_I_rR, m_L_rR, m_R_rR, m_AI_rR, m_AL_rR, m_AD_rR, m_AR_rR, m_n_rR, true_and, and_true, and_false, false_and, and_self, if_true, if_false, ite_self, Nat.reduceEqDiff, reduceIte, obt, jlt, jbt, jbd_ite, bind_ite]; rw [updD_if, if_neg (by omega), g9, if_neg hj]
theorem failing_ok (R : jM) (fl : Int32) : f_X12_failing 2398 fl R = some (-1, jsI (jsI R 126 2398 fl) 127 2398 (jI R 122 2398)) := by
  unfold f_X12_failing
  simp only [k_2398, true_and, and_true, and_false, false_and, and_self, if_true, if_false, ite_self, Nat.reduceEqDiff, reduceIte, obt, jlt, jbt, jbd_ite, bind_ite, m_I_sI, m_L_sI, m_R_sI, m_AI_sI, m_AL_sI, m_AD_sI, m_AR_sI, m_n_sI, m_I_sL, m_L_sL, m_R_sL, m_AI_sL, m_AL_sL, m_AD_sL, m_AR_sL, m_n_sL, m_I_sR, m_L_sR, m_R_sR, m_AI_sR, m_AL_sR, m_AD_sR, m_AR_sR, m_n_sR, m_I_rI, m_L_rI, m_R_rI, m_AI_rI, m_AL_rI, m_AD_rI, m_AR_rI, m_n_rI, m_I_rL, m_L_rL, m_R_rL, m_AI_rL, m_AL_rL, m_AD_rL, m_AR_rL, m_n_rL, m_I_rD, m_L_rD, m_R_rD, m_AI_rD, m_AL_rD, m_AD_rD, m_AR_rD, m_n_rD, m_I_rR, m_L_rR, m_R_rR, m_AI_rR, m_AL_rR, m_AD_rR, m_AR_rR, m_n_rR]
theorem fail_fr (R : jM) (fl : Int32) : Fr qK R (jsI (jsI R 126 2398 fl) 127 2398 (jI R 122 2398)) := ((Fr.refl).sI (by unfold qK; omega)).sI (by unfold qK; omega)
theorem opr_fail {n : Int} {C C' R : jM} {v p : Nat} {fl : Int32} (hC : Fr (pV v) C C') (h1 : 1 ≤ fl.toInt ∧ fl.toInt ≤ 6) (hp : jI R 92 2398 = nI p) : OpR n C C' v R (jsI (jsI R 126 2398 fl) 127 2398 (jI R 122 2398)) p fl (-1) := by
  refine ⟨hC, fail_fr R fl, fun s _ => ⟨rfl, rfl, fun _ _ => ⟨rfl, rfl⟩⟩, .inr ⟨h1.1, h1.2, rfl, ?_, ?_, ?_⟩⟩
  · simp only [m_I_sI, m_L_sI, m_R_sI, m_AI_sI, m_AL_sI, m_AD_sI, m_AR_sI, m_n_sI, m_I_sL, m_L_sL, m_R_sL, m_AI_sL, m_AL_sL, m_AD_sL, m_AR_sL, m_n_sL, m_I_sR, m_L_sR, m_R_sR, m_AI_sR, m_AL_sR, m_AD_sR, m_AR_sR, m_n_sR, m_I_rI, m_L_rI, m_R_rI, m_AI_rI, m_AL_rI, m_AD_rI, m_AR_rI, m_n_rI, m_I_rL, m_L_rL, m_R_rL, m_AI_rL, m_AL_rL, m_AD_rL, m_AR_rL, m_n_rL, m_I_rD, m_L_rD, m_R_rD, m_AI_rD, m_AL_rD, m_AD_rD, m_AR_rD, m_n_rD, m_I_rR, m_L_rR, m_R_rR, m_AI_rR, m_AL_rR, m_AD_rR, m_AR_rR, m_n_rR]; rw [if_neg (by decide), if_neg (by decide)]; exact hp
  · simp only [m_I_sI, m_L_sI, m_R_sI, m_AI_sI, m_AL_sI, m_AD_sI, m_AR_sI, m_n_sI, m_I_sL, m_L_sL, m_R_sL, m_AI_sL, m_AL_sL, m_AD_sL, m_AR_sL, m_n_sL, m_I_sR, m_L_sR, m_R_sR, m_AI_sR, m_AL_sR, m_AD_sR, m_AR_sR, m_n_sR, m_I_rI, m_L_rI, m_R_rI, m_AI_rI, m_AL_rI, m_AD_rI, m_AR_rI, m_n_rI, m_I_rL, m_L_rL, m_R_rL, m_AI_rL, m_AL_rL, m_AD_rL, m_AR_rL, m_n_rL, m_I_rD, m_L_rD, m_R_rD, m_AI_rD, m_AL_rD, m_AD_rD, m_AR_rD, m_n_rD, m_I_rR, m_L_rR, m_R_rR, m_AI_rR, m_AL_rR, m_AD_rR, m_AR_rR, m_n_rR]; rw [if_neg (by decide), if_pos (by decide)]
  · simp only [m_I_sI, m_L_sI, m_R_sI, m_AI_sI, m_AL_sI, m_AD_sI, m_AR_sI, m_n_sI, m_I_sL, m_L_sL, m_R_sL, m_AI_sL, m_AL_sL, m_AD_sL, m_AR_sL, m_n_sL, m_I_sR, m_L_sR, m_R_sR, m_AI_sR, m_AL_sR, m_AD_sR, m_AR_sR, m_n_sR, m_I_rI, m_L_rI, m_R_rI, m_AI_rI, m_AL_rI, m_AD_rI, m_AR_rI, m_n_rI, m_I_rL, m_L_rL, m_R_rL, m_AI_rL, m_AL_rL, m_AD_rL, m_AR_rL, m_n_rL, m_I_rD, m_L_rD, m_R_rD, m_AI_rD, m_AL_rD, m_AD_rD, m_AR_rD, m_n_rD, m_I_rR, m_L_rR, m_R_rR, m_AI_rR, m_AL_rR, m_AD_rR, m_AR_rR, m_n_rR]; rw [if_pos (by decide)]
theorem opr_whole {n : Int} {C C' R : jM} (hR : Lay R) {v p : Nat} {w : Int64} (hC : Fr (pV v) C C') (c1 : jI C' 52 v = 0) (c2 : jI C' 53 v = 0) (c3 : jAL C' (v + 1) 0 = w) (hp : jI R 92 2398 = nI p) (hp2 : p < 1500) :
    ∃ R', f_X12_ofWhole 2398 w R = some (nI p, R') ∧ OpR n C C' v R R' p 0 (nI p) := by
  obtain ⟨R', g1, g2, g3, g4, g5, g6, g7, g8, g9⟩ := ofWhole_ok hR hp hp2 w
  refine ⟨R', g1, hC, g2, g9, .inl ⟨rfl, p, p + 1, nI_toInt (by omega), ⟨by omega, fun z => absurd z (by omega)⟩, by omega, by omega, g3, ?_, g4, g5⟩⟩
  unfold VR VV
  rw [c1, c2, g6, g7]
  refine ⟨rfl, rfl, ⟨by decide, by decide, by decide, by decide, fun _ => rfl⟩, fun j hj => ?_⟩
  have hj0 : j = 0 := by unfold vlen at hj; rw [if_neg (by decide)] at hj; omega
  subst hj0
  unfold vitem
  rw [if_neg (by decide)]
  exact ⟨by rw [c3]; exact g8.symm, fun z => absurd z (by decide), fun z => absurd z (by decide)⟩
theorem opr_real {n : Int} {C C' R : jM} (hR : Lay R) {v p : Nat} {b : Int64} (hC : Fr (pV v) C C') (c1 : jI C' 52 v = 1) (c2 : jI C' 53 v = 0) (c3 : jAL C' (v + 1) 0 = b) (hb : vcan b) (hp : jI R 92 2398 = nI p) (hp2 : p < 1500) :
    ∃ R', f_X12_ofReal 2398 b.toUInt64 R = some (nI p, R') ∧ OpR n C C' v R R' p 0 (nI p) := by
  obtain ⟨R', g1, g2, g3, g4, g5, g6, g7, g8, g9⟩ := ofReal_ok hR hp hp2 b.toUInt64
  refine ⟨R', g1, hC, g2, g9, .inl ⟨rfl, p, p + 1, nI_toInt (by omega), ⟨by omega, fun z => absurd z (by omega)⟩, by omega, by omega, g3, ?_, g4, g5⟩⟩
  unfold VR VV
  rw [c1, c2, g6, g7]
  refine ⟨rfl, rfl, ⟨by decide, by decide, by decide, by decide, fun _ => rfl⟩, fun j hj => ?_⟩
  have hj0 : j = 0 := by unfold vlen at hj; rw [if_neg (by decide)] at hj; omega
  subst hj0
  unfold vitem
  rw [if_pos (by decide), c3]
  exact ⟨g8, hb⟩
theorem cnum {C : jM} {v : Nat} {so : Int32} {b : Int64} : jI (jrL (jsI (jsI C 52 v so) 53 v 0) (v + 1) (vp_updL (jAL C (v + 1)) 0 b)) 52 v = so ∧ jI (jrL (jsI (jsI C 52 v so) 53 v 0) (v + 1) (vp_updL (jAL C (v + 1)) 0 b)) 53 v = 0 ∧ jAL (jrL (jsI (jsI C 52 v so) 53 v 0) (v + 1) (vp_updL (jAL C (v + 1)) 0 b)) (v + 1) 0 = b := by
  simp only [m_I_sI, m_L_sI, m_R_sI, m_AI_sI, m_AL_sI, m_AD_sI, m_AR_sI, m_n_sI, m_I_sL, m_L_sL, m_R_sL, m_AI_sL, m_AL_sL, m_AD_sL, m_AR_sL, m_n_sL, m_I_sR, m_L_sR, m_R_sR, m_AI_sR, m_AL_sR, m_AD_sR, m_AR_sR, m_n_sR, m_I_rI, m_L_rI, m_R_rI, m_AI_rI, m_AL_rI, m_AD_rI, m_AR_rI, m_n_rI, m_I_rL, m_L_rL, m_R_rL, m_AI_rL, m_AL_rL, m_AD_rL, m_AR_rL, m_n_rL, m_I_rD, m_L_rD, m_R_rD, m_AI_rD, m_AL_rD, m_AD_rD, m_AR_rD, m_n_rD, m_I_rR, m_L_rR, m_R_rR, m_AI_rR, m_AL_rR, m_AD_rR, m_AR_rR, m_n_rR, true_and, and_true, and_false, false_and, and_self, if_true, if_false, ite_self, Nat.reduceEqDiff, reduceIte, obt, jlt, jbt, jbd_ite, bind_ite, updL_if]

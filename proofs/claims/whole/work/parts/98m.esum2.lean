/-! PURE: the evaluator: SUM: the class's acts -/
theorem h3i {h : Nat} (hh : h < 590) : nI h + (1 : Int32) = nI (h + 1) ∧ nI h + (2 : Int32) = nI (h + 2) ∧ nI h + (3 : Int32) = nI (h + 3) ∧ nI (h + 3) < (600 : Int32) := ⟨nJ_add (a := h) (b := 1) (by omega), nJ_add (a := h) (b := 2) (by omega), nJ_add (a := h) (b := 3) (by omega), by rw [show (600 : Int32) = nI 600 from rfl, i_lt, nI_toInt (by omega), nI_toInt (by omega)]; omega⟩
theorem aPl {i : Nat} (hi : i < 600) : jA 817 19 (nI i) = true ∧ (nI i).toNatClampNeg = i := ⟨jA_n k_817 (by rw [ln_817]; omega) (by omega), nJ_cl (by omega)⟩
theorem add3 {S Cb : jM} {f h k st : Nat} {fl : Int32} (hS : Lay S) (hb : Lay Cb) (h60 : jI S 60 811 = nI f) (hf : 0 < f ∧ f ≤ 300) (h814 : jAI S 814 (f - 1) = nI h) (hh : h < 590) (hk : k < 300) (h3 : 3 ≤ st) (hst : st < 2147483648) (ha : f_X3_arithmetic (43 : Int32) (818 + 2 * (h + 2)) (818 + 2 * (h + 3)) S = some (fl, Cb)) :
    f_X10_addUp 811 (nI k) (nI st) S = if fl = 0 then f_X10_addUp_210 811 (nI k) (nI h) (818 + 2 * h) (818 + 2 * (h + 2)) (if jAL Cb 816 k = jAL Cb (818 + 2 * (h + 1) + 1) 0 then 1 else 0) (jrL Cb 816 (vp_updL (jAL Cb 816) k (jAL Cb 816 k + (1 : Int64)))) else f_X10_fail 811 fl Cb := by
  obtain ⟨fa1, fa2, fa3, fa4, fa5, fa6⟩ := aF (show f - 1 < 300 by omega)
  obtain ⟨i1, i2, i3, i6⟩ := h3i hh
  obtain ⟨p0, q0⟩ := aPl (show h < 600 by omega)
  obtain ⟨p1, q1⟩ := aPl (show h + 1 < 600 by omega)
  obtain ⟨p2, q2⟩ := aPl (show h + 2 < 600 by omega)
  obtain ⟨p3, q3⟩ := aPl (show h + 3 < 600 by omega)
  have kp := kf_pile (show h + 1 < 600 by omega)
  have kz : jA (818 + 2 * (h + 1) + 1) 14 0 = true := jAz (kd_val kp).1 (by rw [(kd_val kp).2]; decide)
  have ak : jA 816 14 (nI k) = true := jA_n k_816 (by rw [ln_816]; omega) (by omega)
  have hid : ∀ o : Option jM, (o.bind fun S1 => some S1) = o := fun o => by cases o <;> rfl
  unfold f_X10_addUp
  rw [if_pos (show (2 : Int32) ≤ nI st by rw [show (2 : Int32) = nI 2 from rfl, nJ_le (by omega) (by omega)]; omega), if_pos k_811, ly_58 hS, obt, h60, f_1 hf.1 hf.2, if_pos fa3, jlt, fa6, h814, i3, if_neg (h_lt (show h < 600 by omega)).1, if_pos i6, ly_61 hS, obt, if_pos p0, q0, ly_pl hS (by omega), obt, obt, i1, if_pos p1, q1, ly_pl hS (by omega), obt, obt, i2, if_pos p2, q2, ly_pl hS (by omega), obt, if_neg (by rw [show (2 : Int32) = nI 2 from rfl, i_eq, nI_toInt (by omega), nI_toInt (by omega)]; omega), obt, if_pos p3, q3, ly_pl hS (by omega), obt, ha, jbt]
  by_cases c : fl = 0
  · have ck : (nI k).toNatClampNeg = k := nJ_cl (by omega)
    have lv : jR Cb 54 (818 + 2 * (h + 1)) = some (818 + 2 * (h + 1) + 1) := ly_v hb kp
    rw [if_pos c, if_pos c, ly_63 hb, obt, if_pos ak, if_pos kp, lv, obt, if_pos kz, cl0, ck]
    have e : ∀ t0, f_X10_addUp_198 811 (nI k) (nI h) (818 + 2 * h) (818 + 2 * (h + 2)) t0 Cb = f_X10_addUp_210 811 (nI k) (nI h) (818 + 2 * h) (818 + 2 * (h + 2)) t0 (jrL Cb 816 (vp_updL (jAL Cb 816) k (jAL Cb 816 k + (1 : Int64)))) := fun t0 => by
      unfold f_X10_addUp_198
      rw [if_pos k_811, ly_63 hb, obt, if_pos ak, if_pos ak, jlt, ck]
    rw [e, e]
    by_cases c2 : jAL Cb 816 k = jAL Cb (818 + 2 * (h + 1) + 1) 0
    · rw [if_pos c2, if_pos c2]
    · rw [if_neg c2, if_neg c2]
  · rw [if_neg c, if_neg c, hid]
theorem add2 {S S72 : jM} {f h k : Nat} (hS : Lay S) (hb : Lay S72) (h60 : jI S 60 811 = nI f) (hf : 0 < f ∧ f ≤ 300) (h814 : jAI S 814 (f - 1) = nI h) (hh : h < 590) (hk : k < 300) (ha : f_X9_setNumber (818 + 2 * (h + 2)) (0 : Int32) (0 : Int64) S = some S72) :
    f_X10_addUp 811 (nI k) (nI 2) S = if jI S 52 (818 + 2 * h) = 0 then if jI S 52 (818 + 2 * (h + 1)) = 0 then f_X10_addUp_210 811 (nI k) (nI h) (818 + 2 * h) (818 + 2 * (h + 2)) (if jAL S72 (818 + 2 * h + 1) 0 ≤ jAL S72 (818 + 2 * (h + 1) + 1) 0 then 0 else 1) (jrL S72 816 (vp_updL (jAL S72 816) k (jAL S72 (818 + 2 * h + 1) 0))) else f_X10_fail 811 2 S else f_X10_fail 811 2 S := by
  obtain ⟨fa1, fa2, fa3, fa4, fa5, fa6⟩ := aF (show f - 1 < 300 by omega)
  obtain ⟨i1, i2, i3, i6⟩ := h3i hh
  obtain ⟨p0, q0⟩ := aPl (show h < 600 by omega)
  obtain ⟨p1, q1⟩ := aPl (show h + 1 < 600 by omega)
  obtain ⟨p2, q2⟩ := aPl (show h + 2 < 600 by omega)
  have kp0 := kf_pile (show h < 600 by omega)
  have kp1 := kf_pile (show h + 1 < 600 by omega)
  have kp2 := kf_pile (show h + 2 < 600 by omega)
  have kz0 : jA (818 + 2 * h + 1) 14 0 = true := jAz (kd_val kp0).1 (by rw [(kd_val kp0).2]; decide)
  have kz1 : jA (818 + 2 * (h + 1) + 1) 14 0 = true := jAz (kd_val kp1).1 (by rw [(kd_val kp1).2]; decide)
  have ak : jA 816 14 (nI k) = true := jA_n k_816 (by rw [ln_816]; omega) (by omega)
  have ck : (nI k).toNatClampNeg = k := nJ_cl (by omega)
  have hid : ∀ o : Option jM, (o.bind fun S1 => some S1) = o := fun o => by cases o <;> rfl
  have lv0 : jR S72 54 (818 + 2 * h) = some (818 + 2 * h + 1) := ly_v hb kp0
  have lv1 : jR S72 54 (818 + 2 * (h + 1)) = some (818 + 2 * (h + 1) + 1) := ly_v hb kp1
  have e89 : f_X10_addUp_93 811 S = f_X10_fail 811 2 S := by
    unfold f_X10_addUp_93
    rw [if_pos k_811, hid]
  unfold f_X10_addUp
  rw [if_pos (show (2 : Int32) ≤ nI 2 from by decide), if_pos k_811, ly_58 hS, obt, h60, f_1 hf.1 hf.2, if_pos fa3, jlt, fa6, h814, i3, if_neg (h_lt (show h < 600 by omega)).1, if_pos i6, ly_61 hS, obt, if_pos p0, q0, ly_pl hS (by omega), obt, obt, i1, if_pos p1, q1, ly_pl hS (by omega), obt, obt, i2, if_pos p2, q2, ly_pl hS (by omega), obt, if_pos (show nI 2 = 2 from rfl), if_pos kp0, if_pos kp1, if_pos kp2, ha, obt, ly_63 hb, obt, lv0, obt, if_pos kz0, if_pos ak, jlt, cl0, ck, e89]
  by_cases c0 : jI S 52 (818 + 2 * h) = 0
  · rw [if_pos c0, if_pos c0]
    by_cases c1 : jI S 52 (818 + 2 * (h + 1)) = 0
    · have m0 : jR (jrL S72 816 (vp_updL (jAL S72 816) k (jAL S72 (818 + 2 * h + 1) 0))) 54 (818 + 2 * h) = some (818 + 2 * h + 1) := lv0
      have m1 : jR (jrL S72 816 (vp_updL (jAL S72 816) k (jAL S72 (818 + 2 * h + 1) 0))) 54 (818 + 2 * (h + 1)) = some (818 + 2 * (h + 1) + 1) := lv1
      have m2 : jAL (jrL S72 816 (vp_updL (jAL S72 816) k (jAL S72 (818 + 2 * h + 1) 0))) (818 + 2 * h + 1) 0 = jAL S72 (818 + 2 * h + 1) 0 := by simp only [m_I_sI, m_L_sI, m_R_sI, m_AI_sI, m_AL_sI, m_AD_sI, m_AR_sI, m_n_sI, m_I_sL, m_L_sL, m_R_sL, m_AI_sL, m_AL_sL, m_AD_sL, m_AR_sL, m_n_sL, m_I_sR, m_L_sR, m_R_sR, m_AI_sR, m_AL_sR, m_AD_sR, m_AR_sR, m_n_sR, m_I_rI, m_L_rI, m_R_rI, m_AI_rI, m_AL_rI, m_AD_rI, m_AR_rI, m_n_rI, m_I_rL, m_L_rL, m_R_rL, m_AI_rL, m_AL_rL, m_AD_rL, m_AR_rL, m_n_rL, m_I_rD, m_L_rD, m_R_rD, m_AI_rD, m_AL_rD, m_AD_rD, m_AR_rD, m_n_rD, m_I_rR, m_L_rR, m_R_rR, m_AI_rR, m_AL_rR, m_AD_rR, m_AR_rR, m_n_rR]; rw [if_neg (by omega)]
      have m3 : jAL (jrL S72 816 (vp_updL (jAL S72 816) k (jAL S72 (818 + 2 * h + 1) 0))) (818 + 2 * (h + 1) + 1) 0 = jAL S72 (818 + 2 * (h + 1) + 1) 0 := by simp only [m_I_sI, m_L_sI, m_R_sI, m_AI_sI, m_AL_sI, m_AD_sI, m_AR_sI, m_n_sI, m_I_sL, m_L_sL, m_R_sL, m_AI_sL, m_AL_sL, m_AD_sL, m_AR_sL, m_n_sL, m_I_sR, m_L_sR, m_R_sR, m_AI_sR, m_AL_sR, m_AD_sR, m_AR_sR, m_n_sR, m_I_rI, m_L_rI, m_R_rI, m_AI_rI, m_AL_rI, m_AD_rI, m_AR_rI, m_n_rI, m_I_rL, m_L_rL, m_R_rL, m_AI_rL, m_AL_rL, m_AD_rL, m_AR_rL, m_n_rL, m_I_rD, m_L_rD, m_R_rD, m_AI_rD, m_AL_rD, m_AD_rD, m_AR_rD, m_n_rD, m_I_rR, m_L_rR, m_R_rR, m_AI_rR, m_AL_rR, m_AD_rR, m_AR_rR, m_n_rR]; rw [if_neg (by omega)]
      rw [if_pos c1, if_pos c1, m0, obt, if_pos kz0, m1, obt, if_pos kz1, m2, m3]
      unfold f_X10_addUp_142
      by_cases c2 : jAL S72 (818 + 2 * h + 1) 0 ≤ jAL S72 (818 + 2 * (h + 1) + 1) 0
      · rw [if_pos c2, if_pos c2]
      · rw [if_neg c2, if_neg c2]
    · rw [if_neg c1, if_neg c1]
  · rw [if_neg c0, if_neg c0]
/-- a node has failed: its frame is left -/
theorem RES.fails {F T t np nr : Nat} {ru : Nat → Nat × Nat × Nat} {n : Int} {ki : Nat → Int32} {co : Nat → Int64} {inn : Nat → Int32} {f k h rs lo hi r : Nat} {C0 R0 : jM} {w0 p0 j st w p sc : Nat} {c : Int32} {C R : jM} (a1 : it F j C0 = some C) (a2 : ES F T t np nr ru n ki co inn C R) (a3 : ED F n w p sc C R) (a4 : KP F t nr ru f h rs lo hi C0 R0 w0 p0 C R w p) (a5 : FL F c C R) (a6 : TOP f k st h r C) (a7 : jI R 122 2398 = nI r) (a8 : p + w0 ≤ p0 + w) (a9 : j + 1 ≤ 8 * (w - w0) + 2) (hl : f_X10_leaveFailed 811 C = some (jsI C 60 811 (nI (f - 1)))) : ∃ j' C', it F j' C0 = some C' ∧ RES F t nr ru n f h rs lo hi r C0 R0 w0 p0 j' C' (-1) R := by
  have hF : isF F := a2.2.2.1
  have hFn := hF.n
  have hc0 : ¬ jI C 7 F = 0 := by rw [a5.2.1, i_eq, t_0]; have := a5.1; omega
  have hFr : Fr (fun t f a => a = 811 ∧ t = 0 ∧ f = 60) C (jsI C 60 811 (nI (f - 1))) := (Fr.refl).sI (by omega)
  refine ⟨j + 1, _, it_1 a1 (by rw [a6.1, nI_toInt (by have := a6.2.1; omega)]; have := a6.2.1; omega) (by unfold stp; rw [if_pos a2.2.2.2.2.2.2.2.1, if_neg hc0]; exact hl), w, p, sc, ?_, ?_, by omega, ?_, a7, .inr ⟨rfl, by omega, c, a5.1, ?_, a5.2.2.1, ?_⟩⟩
  · exact a3.f (by rw [hFr.i (by omega)]; exact a3.1.1) a3.1.2.1 a3.1.2.2 ((hFr.i (by omega)).trans a3.2.1.1) ((hFr.i (by omega)).trans a3.2.1.2) (hFr.i (by omega)) rfl a3.2.2.2.1.1 (Nat.le_refl _) a3.2.2.2.1.2.2 (fun a h1 h2 h3 => hFr.sP (fun t f => by omega)) (fun _ _ _ => rfl) (fun _ _ => sS.refl)
  · have k1 : KP F t nr ru f h rs lo hi C R w p (jsI C 60 811 (nI (f - 1))) R w p := ⟨hFr.mono (fun t f a z => by unfold pW; omega), Fr.refl, fun i _ => ⟨rfl, rfl, rfl, rfl⟩, fun i _ => ⟨hFr.sP (fun t f => by omega), hFr.sP (fun t f => by omega)⟩, fun _ _ => sS.refl, ⟨Nat.le_refl _, Nat.le_refl _⟩, fun q _ => ⟨rfl, rfl⟩, fun r => .inr rfl⟩
    exact a4.trans k1 (Nat.le_refl _) (Nat.le_refl _) (fun q z => z) (Nat.le_refl _)
  · simp only [m_I_sI, m_L_sI, m_R_sI, m_AI_sI, m_AL_sI, m_AD_sI, m_AR_sI, m_n_sI, m_I_sL, m_L_sL, m_R_sL, m_AI_sL, m_AL_sL, m_AD_sL, m_AR_sL, m_n_sL, m_I_sR, m_L_sR, m_R_sR, m_AI_sR, m_AL_sR, m_AD_sR, m_AR_sR, m_n_sR, m_I_rI, m_L_rI, m_R_rI, m_AI_rI, m_AL_rI, m_AD_rI, m_AR_rI, m_n_rI, m_I_rL, m_L_rL, m_R_rL, m_AI_rL, m_AL_rL, m_AD_rL, m_AR_rL, m_n_rL, m_I_rD, m_L_rD, m_R_rD, m_AI_rD, m_AL_rD, m_AD_rD, m_AR_rD, m_n_rD, m_I_rR, m_L_rR, m_R_rR, m_AI_rR, m_AL_rR, m_AD_rR, m_AR_rR, m_n_rR, true_and, and_true, and_false, false_and, and_self, if_true, if_false, ite_self, Nat.reduceEqDiff, reduceIte, obt, jlt, jbt, jbd_ite, bind_ite]
  · rw [hFr.i (by omega)]; exact a5.2.1
  · rw [hFr.i (by omega)]; exact a5.2.2.2

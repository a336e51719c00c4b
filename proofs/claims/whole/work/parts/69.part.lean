/-! PURE: the parser: a part more -/
def pNc (T t f a : Nat) : Prop := t = 3 ∧ f = f ∧ (a = T + 1 ∨ a = T + 2 ∨ a = T + 3)
def pNr (t f a : Nat) : Prop := t = 3 ∧ f = f ∧ 2408 ≤ a ∧ a ≤ 2413
theorem pNc_C {T t f a : Nat} (h : pNc T t f a) : pPC T t f a := by unfold pNc at h; unfold pPC; omega
theorem pNr_R {t f a : Nat} (h : pNr t f a) : pPR t f a := by unfold pNr at h; unfold pPR; omega
theorem t_616 {T : Nat} (hk : jK T = 6) : (616 ≠ T + 1 ∧ 616 ≠ T + 2 ∧ 616 ≠ T + 3) ∧ (617 ≠ T + 1 ∧ 617 ≠ T + 2 ∧ 617 ≠ T + 3) := by
  have kt := kd_text hk
  have l16 := ln_616
  have l17 := ln_617
  have q : ∀ j, j = 616 ∨ j = 617 → ∀ z, jLen z ≠ jLen j → j ≠ z := fun j _ z hz e => hz (by rw [e])
  refine ⟨⟨q _ (.inl rfl) _ (by omega), q _ (.inl rfl) _ (by omega), q _ (.inl rfl) _ (by omega)⟩, q _ (.inr rfl) _ (by omega), q _ (.inr rfl) _ (by omega), q _ (.inr rfl) _ (by omega)⟩
/-- the state does not read the parts -/
theorem PS.nd {B : Nat → Int32} {e N T t : Nat} {A : Nat → Prop} {np nr cn : Nat} {fl : Int32} {C R C' R' : jM} (h : PS B e N T t A np nr cn fl C R) (hC : Fr (pNc T) C C') (hR : Fr pNr R R') : PS B e N T t A np nr cn fl C' R' := by
  obtain ⟨hT, a1, a2, a3, a4, a5, a6, a7, a8, a9, a10, a11, a12, a13, a14, q, b1, b2, b3⟩ := h
  have kt := kd_text hT.2.2.1
  obtain ⟨⟨n1, n2, n3⟩, n4, n5, n6⟩ := t_616 hT.2.2.1
  refine ⟨hT.f (hC.mono (fun _ _ _ => pNc_C)) (hR.mono (fun _ _ _ => pNr_R)), a1, a2, a3, ?_, ?_, ?_, ?_, ?_, ?_, ?_, ?_, ?_, a13, fun z => ?_, q, b1, ?_, fun z => ?_⟩
  · rw [hC.i (by unfold pNc; omega)]; exact a4
  · rw [hC.i (by unfold pNc; omega)]; exact a5
  · rw [hR.ai (by unfold pNr; omega)]; exact a6
  · rw [hC.i (by unfold pNc; omega)]; exact a7
  · rw [hR.i (by unfold pNr; omega)]; exact a8
  · rw [hC.al (by unfold pNc; omega), hR.al (by unfold pNr; omega)]; exact a9
  · rw [hC.al (a := 616) (by unfold pNc; omega), hC.ai (a := 617) (by unfold pNc; omega), hR.al (by unfold pNr; omega), hR.ai (by unfold pNr; omega)]; exact a10
  · rw [hC.i (by unfold pNc; omega)]; exact a11
  · rw [hR.i (by unfold pNr; omega)]; exact a12
  · rw [hC.i (by unfold pNc; omega), hR.i (by unfold pNr; omega)]; exact a14 z
  · rw [hR.i (by unfold pNr; omega)]; exact b2
  · obtain ⟨c1, c2, c3⟩ := b3 z
    refine ⟨?_, ?_, ?_⟩
    · unfold tokAt at *
      rw [hC.i (by unfold pNc; omega), hC.i (by unfold pNc; omega), hC.i (by unfold pNc; omega), hC.2.1 42 608 (by unfold pNc; omega), hC.i (by unfold pNc; omega)]
      exact c1
    · rw [hR.ai (by unfold pNr; omega)]; exact c2
    · rw [hR.i (by unfold pNr; omega)]; exact c3
/-- a part is written in both -/
def nC (T np : Nat) (kd : Int32) (ct : Int64) (C : jM) : jM := jsI (jrL (jrI C (T + 1) (upd (jAI C (T + 1)) np kd)) (T + 2) (vp_updL (jAL C (T + 2)) np ct)) 45 T (nI (np + 1))
def nR (t np : Nat) (km : Int32) (R : jM) : jM := jrL (jrI (jrI (jrI (jrI (jrI R 2414 (upd (jAI R 2414) t (nI (np + 1)))) 2408 (upd (jAI R 2408) (301 * t + np) km)) 2409 (upd (jAI R 2409) (301 * t + np) (-1))) 2410 (upd (jAI R 2410) (301 * t + np) (-1))) 2411 (upd (jAI R 2411) (301 * t + np) (-1))) 2412 (vp_updL (jAL R 2412) (301 * t + np) 0)
theorem nA {t np : Nat} (ht : t < 33) (hnp : np < 301) : ((301 : Int32) * nI t) + nI np = nI (301 * t + np) ∧ jA 2408 13 (nI (301 * t + np)) = true ∧ jA 2409 13 (nI (301 * t + np)) = true ∧ jA 2410 13 (nI (301 * t + np)) = true ∧ jA 2411 13 (nI (301 * t + np)) = true ∧ jA 2412 14 (nI (301 * t + np)) = true ∧ jA 2413 13 (nI (301 * t + np)) = true ∧ (nI (301 * t + np)).toNatClampNeg = 301 * t + np := by
  have hm : ((301 : Int32) * nI t) = nI (301 * t) := by
    rw [i_eq, nI_toInt (by omega), i_mul (by rw [nI_toInt (by omega), show (301 : Int32).toInt = 301 from rfl]; omega) (by rw [nI_toInt (by omega), show (301 : Int32).toInt = 301 from rfl]; omega), nI_toInt (by omega), show (301 : Int32).toInt = 301 from rfl]; omega
  have k08 : jK 2408 = 13 := by decide +kernel
  have k09 : jK 2409 = 13 := by decide +kernel
  have k10 : jK 2410 = 13 := by decide +kernel
  have k11 : jK 2411 = 13 := by decide +kernel
  have k12 : jK 2412 = 14 := by decide +kernel
  have k13 : jK 2413 = 13 := by decide +kernel
  have l09 : jLen 2409 = 9933 := by decide +kernel
  have l10 : jLen 2410 = 9933 := by decide +kernel
  have l11 : jLen 2411 = 9933 := by decide +kernel
  have l13 : jLen 2413 = 9933 := by decide +kernel
  refine ⟨by rw [hm, nJ_add (by omega)], jA_n k08 (by rw [ln_2408]; omega) (by omega), jA_n k09 (by rw [l09]; omega) (by omega), jA_n k10 (by rw [l10]; omega) (by omega), jA_n k11 (by rw [l11]; omega) (by omega), jA_n k12 (by rw [ln_2412]; omega) (by omega), jA_n k13 (by rw [l13]; omega) (by omega), nJ_cl (by omega)⟩
theorem node_r {t np : Nat} (ht : t < 33) (hnp : np < 301) {R : jM} (hR : Lay R) (h113 : jI R 113 2398 = nI t) (hn : jAI R 2414 t = nI np) (km : Int32) : f_X12_node 2398 km R = some (nI (301 * t + np), nR t np km R) := by
  obtain ⟨a1, a2, a3, a4, a5, a6, a7, a8⟩ := nA ht hnp
  have at14 : jA 2414 13 (nI t) = true := jA_n k_2414 (by rw [ln_2414]; omega) (by omega)
  have tc : (nI t).toNatClampNeg = t := nJ_cl (by omega)
  unfold f_X12_node nR
  simp only [k_2398, ly_109 hR, ly_103 hR, ly_104 hR, ly_105 hR, ly_106 hR, ly_107 hR, h113, at14, tc, hn, a1, a2, a3, a4, a5, a6, a8, nJ_1 (show np + 1 < 2147483648 by omega), m_I_sI, m_L_sI, m_R_sI, m_AI_sI, m_AL_sI, m_AD_sI, m_AR_sI, m_n_sI, m_I_sL, m_L_sL, m_R_sL, m_AI_sL, m_AL_sL, m_AD_sL, m_AR_sL, m_n_sL, m_I_sR, m_L_sR, m_R_sR, m_AI_sR, m_AL_sR, m_AD_sR, m_AR_sR, m_n_sR, m_I_rI, m_L_rI, m_R_rI, m_AI_rI, m_AL_rI, m_AD_rI, m_AR_rI, m_n_rI, m_I_rL, m_L_rL, m_R_rL, m_AI_rL, m_AL_rL, m_AD_rL, m_AR_rL, m_n_rL, m_I_rD, m_L_rD, m_R_rD, m_AI_rD, m_AL_rD, m_AD_rD, m_AR_rD, m_n_rD, m_I_rR, m_L_rR, m_R_rR, m_AI_rR, m_AL_rR, m_AD_rR, m_AR_rR, m_n_rR, true_and, and_true, and_false, false_and, and_self, if_true, if_false, ite_self, Nat.reduceEqDiff, reduceIte, obt, jlt, jbt, jbd_ite, bind_ite]
theorem part_ok {B : Nat → Int32} {e N T t : Nat} {A : Nat → Prop} {np nr cn : Nat} {C R : jM} (h : PS B e N T t A np nr cn 0 C R) {q : Nat} (hq : jI R 100 2398 = nI q) (hq2 : q < 1602) (k0 : (tkv B e (tps B e q)).1 ≠ 0) (k1 : (tkv B e (tps B e q)).1 ≠ 1) (kd : Int32) (ct : Int64) :
    (np = 300 ∧ ∃ C' R' fl', f_X4_part 607 kd ct C = some (-1, C') ∧ f_X12_part 2398 R = some (0, R') ∧ fl' ≠ 0 ∧ PS B e N T t A np nr cn fl' C' R' ∧ St T t np cn C R C' R') ∨
    (np < 300 ∧ ∃ C', f_X4_part 607 kd ct C = some (nI np, C') ∧ f_X12_part 2398 R = some (1, jsI R 114 2398 (nI (np + 1))) ∧ Fr pTk (nC T np kd ct C) C' ∧ ∀ km, f_X12_node 2398 km (jsI R 114 2398 (nI (np + 1))) = some (nI (301 * t + np), nR t np km (jsI R 114 2398 (nI (np + 1)))) ∧ PS B e N T t A (np + 1) nr cn 0 C' (jsI (nR t np km (jsI R 114 2398 (nI (np + 1)))) 100 2398 (nI (q + 1)))) := by
  obtain ⟨q', p1, p2, p3, p4, p5, p6, p7, p8, p9, p10, p11⟩ := h.tk
  have hqq : q' = q := by
    have z := p3.symm.trans hq
    rw [i_eq, nI_toInt (by omega), nI_toInt (by omega)] at z
    omega
  subst hqq
  have h' := h
  obtain ⟨hT, a1, a2, a3, a4, a5, a6, a7, a8, a9, a10, a11, a12, a13, a14, -⟩ := h'
  have kt := kd_text hT.2.2.1
  have hL6 := hT.1.2.2.2.1 T hT.2.2.1
  by_cases c : np = 300
  · refine .inl ⟨c, ?_⟩
    obtain ⟨C', R', q2, r1, r2, r3, r4, r5, r6⟩ := fail4_ok h (c := 4) (by decide)
    have r6' : St T t np cn C R C' (jsI R' 114 2398 (nI 301)) := St.trans (b := np) (cm := cn) r6 ⟨Fr.refl, (Fr.refl).sI (by unfold pPR; omega), oC.refl, ⟨fun _ _ => ⟨rfl, rfl, rfl, rfl, rfl, rfl⟩, fun _ _ => rfl⟩, fun _ _ => ⟨rfl, rfl, rfl, rfl⟩⟩ (Nat.le_refl _) (Nat.le_refl _)
    have h114 : jI R' 114 2398 = nI 300 := by
      have hfr := r4
      rw [fail_r _ _ h.fr0.2] at hfr
      injection hfr with hfr
      rw [← hfr]
      simp only [m_I_sI, m_L_sI, m_R_sI, m_AI_sI, m_AL_sI, m_AD_sI, m_AR_sI, m_n_sI, m_I_sL, m_L_sL, m_R_sL, m_AI_sL, m_AL_sL, m_AD_sL, m_AR_sL, m_n_sL, m_I_sR, m_L_sR, m_R_sR, m_AI_sR, m_AL_sR, m_AD_sR, m_AR_sR, m_n_sR, m_I_rI, m_L_rI, m_R_rI, m_AI_rI, m_AL_rI, m_AD_rI, m_AR_rI, m_n_rI, m_I_rL, m_L_rL, m_R_rL, m_AI_rL, m_AL_rL, m_AD_rL, m_AR_rL, m_n_rL, m_I_rD, m_L_rD, m_R_rD, m_AI_rD, m_AL_rD, m_AD_rD, m_AR_rD, m_n_rD, m_I_rR, m_L_rR, m_R_rR, m_AI_rR, m_AL_rR, m_AD_rR, m_AR_rR, m_n_rR, true_and, and_true, and_false, false_and, and_self, if_true, if_false, ite_self, Nat.reduceEqDiff, reduceIte, obt, jlt, jbt, jbd_ite, bind_ite]
      rw [p11, c]
    refine ⟨C', jsI R' 114 2398 (nI 301), 4, ?_, ?_, by decide, ?_, r6'⟩
    · unfold f_X4_part f_X8_addPart
      rw [if_pos k_607, a11, if_pos rfl, hT.2.2.2.2.2.1, obt, if_pos hT.2.2.1, if_pos hT.2.2.1, a4, c, if_neg (by decide), jbt, if_pos rfl, r1, obt]
    · unfold f_X12_part f_X12_part_31
      rw [if_pos k_2398, a12, if_pos rfl, p11, c, if_pos (by decide), ly_96 hT.2.1, obt, r2, if_pos r3, r4, obt, if_pos k_2398, jlt, h114]
      simp only [m_I_sI, m_L_sI, m_R_sI, m_AI_sI, m_AL_sI, m_AD_sI, m_AR_sI, m_n_sI, m_I_sL, m_L_sL, m_R_sL, m_AI_sL, m_AL_sL, m_AD_sL, m_AR_sL, m_n_sL, m_I_sR, m_L_sR, m_R_sR, m_AI_sR, m_AL_sR, m_AD_sR, m_AR_sR, m_n_sR, m_I_rI, m_L_rI, m_R_rI, m_AI_rI, m_AL_rI, m_AD_rI, m_AR_rI, m_n_rI, m_I_rL, m_L_rL, m_R_rL, m_AI_rL, m_AL_rL, m_AD_rL, m_AR_rL, m_n_rL, m_I_rD, m_L_rD, m_R_rD, m_AI_rD, m_AL_rD, m_AD_rD, m_AR_rD, m_n_rD, m_I_rR, m_L_rR, m_R_rR, m_AI_rR, m_AL_rR, m_AD_rR, m_AR_rR, m_n_rR, true_and, and_true, and_false, false_and, and_self, if_true, if_false, ite_self, Nat.reduceEqDiff, reduceIte, obt, jlt, jbt, jbd_ite, bind_ite]
      rw [r5.fr0.2, if_neg (by decide)]
      rfl
    · obtain ⟨hT, a1, a2, a3, a4, a5, a6, a7, a8, a9, a10, a11, a12, a13, a14, q, b1, b2, b3⟩ := r5
      refine ⟨hT.f Fr.refl ((Fr.refl).sI (by unfold pPR; omega)), a1, a2, a3, a4, a5, ?_, a7, ?_, a9, a10, a11, ?_, a13, fun z => ?_, q, b1, ?_, fun z => absurd z (by decide)⟩
      · simp only [m_I_sI, m_L_sI, m_R_sI, m_AI_sI, m_AL_sI, m_AD_sI, m_AR_sI, m_n_sI, m_I_sL, m_L_sL, m_R_sL, m_AI_sL, m_AL_sL, m_AD_sL, m_AR_sL, m_n_sL, m_I_sR, m_L_sR, m_R_sR, m_AI_sR, m_AL_sR, m_AD_sR, m_AR_sR, m_n_sR, m_I_rI, m_L_rI, m_R_rI, m_AI_rI, m_AL_rI, m_AD_rI, m_AR_rI, m_n_rI, m_I_rL, m_L_rL, m_R_rL, m_AI_rL, m_AL_rL, m_AD_rL, m_AR_rL, m_n_rL, m_I_rD, m_L_rD, m_R_rD, m_AI_rD, m_AL_rD, m_AD_rD, m_AR_rD, m_n_rD, m_I_rR, m_L_rR, m_R_rR, m_AI_rR, m_AL_rR, m_AD_rR, m_AR_rR, m_n_rR]; exact a6
      · simp only [m_I_sI, m_L_sI, m_R_sI, m_AI_sI, m_AL_sI, m_AD_sI, m_AR_sI, m_n_sI, m_I_sL, m_L_sL, m_R_sL, m_AI_sL, m_AL_sL, m_AD_sL, m_AR_sL, m_n_sL, m_I_sR, m_L_sR, m_R_sR, m_AI_sR, m_AL_sR, m_AD_sR, m_AR_sR, m_n_sR, m_I_rI, m_L_rI, m_R_rI, m_AI_rI, m_AL_rI, m_AD_rI, m_AR_rI, m_n_rI, m_I_rL, m_L_rL, m_R_rL, m_AI_rL, m_AL_rL, m_AD_rL, m_AR_rL, m_n_rL, m_I_rD, m_L_rD, m_R_rD, m_AI_rD, m_AL_rD, m_AD_rD, m_AR_rD, m_n_rD, m_I_rR, m_L_rR, m_R_rR, m_AI_rR, m_AL_rR, m_AD_rR, m_AR_rR, m_n_rR, true_and, and_true, and_false, false_and, and_self, if_true, if_false, ite_self, Nat.reduceEqDiff, reduceIte, obt, jlt, jbt, jbd_ite, bind_ite]; exact a8
      · simp only [m_I_sI, m_L_sI, m_R_sI, m_AI_sI, m_AL_sI, m_AD_sI, m_AR_sI, m_n_sI, m_I_sL, m_L_sL, m_R_sL, m_AI_sL, m_AL_sL, m_AD_sL, m_AR_sL, m_n_sL, m_I_sR, m_L_sR, m_R_sR, m_AI_sR, m_AL_sR, m_AD_sR, m_AR_sR, m_n_sR, m_I_rI, m_L_rI, m_R_rI, m_AI_rI, m_AL_rI, m_AD_rI, m_AR_rI, m_n_rI, m_I_rL, m_L_rL, m_R_rL, m_AI_rL, m_AL_rL, m_AD_rL, m_AR_rL, m_n_rL, m_I_rD, m_L_rD, m_R_rD, m_AI_rD, m_AL_rD, m_AD_rD, m_AR_rD, m_n_rD, m_I_rR, m_L_rR, m_R_rR, m_AI_rR, m_AL_rR, m_AD_rR, m_AR_rR, m_n_rR, true_and, and_true, and_false, false_and, and_self, if_true, if_false, ite_self, Nat.reduceEqDiff, reduceIte, obt, jlt, jbt, jbd_ite, bind_ite]; exact a12
      · simp only [m_I_sI, m_L_sI, m_R_sI, m_AI_sI, m_AL_sI, m_AD_sI, m_AR_sI, m_n_sI, m_I_sL, m_L_sL, m_R_sL, m_AI_sL, m_AL_sL, m_AD_sL, m_AR_sL, m_n_sL, m_I_sR, m_L_sR, m_R_sR, m_AI_sR, m_AL_sR, m_AD_sR, m_AR_sR, m_n_sR, m_I_rI, m_L_rI, m_R_rI, m_AI_rI, m_AL_rI, m_AD_rI, m_AR_rI, m_n_rI, m_I_rL, m_L_rL, m_R_rL, m_AI_rL, m_AL_rL, m_AD_rL, m_AR_rL, m_n_rL, m_I_rD, m_L_rD, m_R_rD, m_AI_rD, m_AL_rD, m_AD_rD, m_AR_rD, m_n_rD, m_I_rR, m_L_rR, m_R_rR, m_AI_rR, m_AL_rR, m_AD_rR, m_AR_rR, m_n_rR, true_and, and_true, and_false, false_and, and_self, if_true, if_false, ite_self, Nat.reduceEqDiff, reduceIte, obt, jlt, jbt, jbd_ite, bind_ite]; exact a14 z
      · simp only [m_I_sI, m_L_sI, m_R_sI, m_AI_sI, m_AL_sI, m_AD_sI, m_AR_sI, m_n_sI, m_I_sL, m_L_sL, m_R_sL, m_AI_sL, m_AL_sL, m_AD_sL, m_AR_sL, m_n_sL, m_I_sR, m_L_sR, m_R_sR, m_AI_sR, m_AL_sR, m_AD_sR, m_AR_sR, m_n_sR, m_I_rI, m_L_rI, m_R_rI, m_AI_rI, m_AL_rI, m_AD_rI, m_AR_rI, m_n_rI, m_I_rL, m_L_rL, m_R_rL, m_AI_rL, m_AL_rL, m_AD_rL, m_AR_rL, m_n_rL, m_I_rD, m_L_rD, m_R_rD, m_AI_rD, m_AL_rD, m_AD_rD, m_AR_rD, m_n_rD, m_I_rR, m_L_rR, m_R_rR, m_AI_rR, m_AL_rR, m_AD_rR, m_AR_rR, m_n_rR, true_and, and_true, and_false, false_and, and_self, if_true, if_false, ite_self, Nat.reduceEqDiff, reduceIte, obt, jlt, jbt, jbd_ite, bind_ite]; exact b2
  · refine .inr ⟨by omega, ?_⟩
    obtain ⟨⟨n1, n2, n3⟩, n4, n5, n6⟩ := t_616 hT.2.2.1
    have n608 : T ≠ 608 := fun z => by have := hT.2.2.1; rw [z, k_608] at this; omega
    have n607 : T ≠ 607 := fun z => by have := hT.2.2.1; rw [z, k_607] at this; omega
    have hFc : Fr (pPC T) C (nC T np kd ct C) := (((Fr.refl).rI (by unfold pPC; omega)).rL (by unfold pPC; omega)).sI (by unfold pPC; omega)
    have hps : ∀ km, PS B e N T t A (np + 1) nr cn 0 (nC T np kd ct C) (nR t np km (jsI R 114 2398 (nI (np + 1)))) := by
      intro km
      have hFr : Fr pPR R (nR t np km (jsI R 114 2398 (nI (np + 1)))) := ((((((((Fr.refl).sI (by unfold pPR; omega)).rI (by unfold pPR; omega)).rI (by unfold pPR; omega)).rI (by unfold pPR; omega)).rI (by unfold pPR; omega)).rI (by unfold pPR; omega)).rL (by unfold pPR; omega))
      refine ⟨hT.f hFc hFr, by omega, a2, a3, ?_, ?_, ?_, ?_, ?_, ?_, ?_, ?_, ?_, a13, fun z => absurd rfl z, q', p1, ?_, fun _ => ⟨?_, ?_, ?_⟩⟩
      · unfold nC; simp only [m_I_sI, m_L_sI, m_R_sI, m_AI_sI, m_AL_sI, m_AD_sI, m_AR_sI, m_n_sI, m_I_sL, m_L_sL, m_R_sL, m_AI_sL, m_AL_sL, m_AD_sL, m_AR_sL, m_n_sL, m_I_sR, m_L_sR, m_R_sR, m_AI_sR, m_AL_sR, m_AD_sR, m_AR_sR, m_n_sR, m_I_rI, m_L_rI, m_R_rI, m_AI_rI, m_AL_rI, m_AD_rI, m_AR_rI, m_n_rI, m_I_rL, m_L_rL, m_R_rL, m_AI_rL, m_AL_rL, m_AD_rL, m_AR_rL, m_n_rL, m_I_rD, m_L_rD, m_R_rD, m_AI_rD, m_AL_rD, m_AD_rD, m_AR_rD, m_n_rD, m_I_rR, m_L_rR, m_R_rR, m_AI_rR, m_AL_rR, m_AD_rR, m_AR_rR, m_n_rR, true_and, and_true, and_false, false_and, and_self, if_true, if_false, ite_self, Nat.reduceEqDiff, reduceIte, obt, jlt, jbt, jbd_ite, bind_ite]
      · unfold nC; simp only [m_I_sI, m_L_sI, m_R_sI, m_AI_sI, m_AL_sI, m_AD_sI, m_AR_sI, m_n_sI, m_I_sL, m_L_sL, m_R_sL, m_AI_sL, m_AL_sL, m_AD_sL, m_AR_sL, m_n_sL, m_I_sR, m_L_sR, m_R_sR, m_AI_sR, m_AL_sR, m_AD_sR, m_AR_sR, m_n_sR, m_I_rI, m_L_rI, m_R_rI, m_AI_rI, m_AL_rI, m_AD_rI, m_AR_rI, m_n_rI, m_I_rL, m_L_rL, m_R_rL, m_AI_rL, m_AL_rL, m_AD_rL, m_AR_rL, m_n_rL, m_I_rD, m_L_rD, m_R_rD, m_AI_rD, m_AL_rD, m_AD_rD, m_AR_rD, m_n_rD, m_I_rR, m_L_rR, m_R_rR, m_AI_rR, m_AL_rR, m_AD_rR, m_AR_rR, m_n_rR, true_and, and_true, and_false, false_and, and_self, if_true, if_false, ite_self, Nat.reduceEqDiff, reduceIte, obt, jlt, jbt, jbd_ite, bind_ite]; exact a5
      · unfold nR; simp only [m_I_sI, m_L_sI, m_R_sI, m_AI_sI, m_AL_sI, m_AD_sI, m_AR_sI, m_n_sI, m_I_sL, m_L_sL, m_R_sL, m_AI_sL, m_AL_sL, m_AD_sL, m_AR_sL, m_n_sL, m_I_sR, m_L_sR, m_R_sR, m_AI_sR, m_AL_sR, m_AD_sR, m_AR_sR, m_n_sR, m_I_rI, m_L_rI, m_R_rI, m_AI_rI, m_AL_rI, m_AD_rI, m_AR_rI, m_n_rI, m_I_rL, m_L_rL, m_R_rL, m_AI_rL, m_AL_rL, m_AD_rL, m_AR_rL, m_n_rL, m_I_rD, m_L_rD, m_R_rD, m_AI_rD, m_AL_rD, m_AD_rD, m_AR_rD, m_n_rD, m_I_rR, m_L_rR, m_R_rR, m_AI_rR, m_AL_rR, m_AD_rR, m_AR_rR, m_n_rR, true_and, and_true, and_false, false_and, and_self, if_true, if_false, ite_self, Nat.reduceEqDiff, reduceIte, obt, jlt, jbt, jbd_ite, bind_ite]; exact a6
      · unfold nC; simp only [m_I_sI, m_L_sI, m_R_sI, m_AI_sI, m_AL_sI, m_AD_sI, m_AR_sI, m_n_sI, m_I_sL, m_L_sL, m_R_sL, m_AI_sL, m_AL_sL, m_AD_sL, m_AR_sL, m_n_sL, m_I_sR, m_L_sR, m_R_sR, m_AI_sR, m_AL_sR, m_AD_sR, m_AR_sR, m_n_sR, m_I_rI, m_L_rI, m_R_rI, m_AI_rI, m_AL_rI, m_AD_rI, m_AR_rI, m_n_rI, m_I_rL, m_L_rL, m_R_rL, m_AI_rL, m_AL_rL, m_AD_rL, m_AR_rL, m_n_rL, m_I_rD, m_L_rD, m_R_rD, m_AI_rD, m_AL_rD, m_AD_rD, m_AR_rD, m_n_rD, m_I_rR, m_L_rR, m_R_rR, m_AI_rR, m_AL_rR, m_AD_rR, m_AR_rR, m_n_rR, true_and, and_true, and_false, false_and, and_self, if_true, if_false, ite_self, Nat.reduceEqDiff, reduceIte, obt, jlt, jbt, jbd_ite, bind_ite]; exact a7
      · unfold nR; simp only [m_I_sI, m_L_sI, m_R_sI, m_AI_sI, m_AL_sI, m_AD_sI, m_AR_sI, m_n_sI, m_I_sL, m_L_sL, m_R_sL, m_AI_sL, m_AL_sL, m_AD_sL, m_AR_sL, m_n_sL, m_I_sR, m_L_sR, m_R_sR, m_AI_sR, m_AL_sR, m_AD_sR, m_AR_sR, m_n_sR, m_I_rI, m_L_rI, m_R_rI, m_AI_rI, m_AL_rI, m_AD_rI, m_AR_rI, m_n_rI, m_I_rL, m_L_rL, m_R_rL, m_AI_rL, m_AL_rL, m_AD_rL, m_AR_rL, m_n_rL, m_I_rD, m_L_rD, m_R_rD, m_AI_rD, m_AL_rD, m_AD_rD, m_AR_rD, m_n_rD, m_I_rR, m_L_rR, m_R_rR, m_AI_rR, m_AL_rR, m_AD_rR, m_AR_rR, m_n_rR, true_and, and_true, and_false, false_and, and_self, if_true, if_false, ite_self, Nat.reduceEqDiff, reduceIte, obt, jlt, jbt, jbd_ite, bind_ite]; exact a8
      · unfold nC nR
        simp only [m_I_sI, m_L_sI, m_R_sI, m_AI_sI, m_AL_sI, m_AD_sI, m_AR_sI, m_n_sI, m_I_sL, m_L_sL, m_R_sL, m_AI_sL, m_AL_sL, m_AD_sL, m_AR_sL, m_n_sL, m_I_sR, m_L_sR, m_R_sR, m_AI_sR, m_AL_sR, m_AD_sR, m_AR_sR, m_n_sR, m_I_rI, m_L_rI, m_R_rI, m_AI_rI, m_AL_rI, m_AD_rI, m_AR_rI, m_n_rI, m_I_rL, m_L_rL, m_R_rL, m_AI_rL, m_AL_rL, m_AD_rL, m_AR_rL, m_n_rL, m_I_rD, m_L_rD, m_R_rD, m_AI_rD, m_AL_rD, m_AD_rD, m_AR_rD, m_n_rD, m_I_rR, m_L_rR, m_R_rR, m_AI_rR, m_AL_rR, m_AD_rR, m_AR_rR, m_n_rR, true_and, and_true, and_false, false_and, and_self, if_true, if_false, ite_self, Nat.reduceEqDiff, reduceIte, obt, jlt, jbt, jbd_ite, bind_ite]
        rw [if_neg (by omega)]
        exact a9
      · unfold nC nR
        simp only [m_I_sI, m_L_sI, m_R_sI, m_AI_sI, m_AL_sI, m_AD_sI, m_AR_sI, m_n_sI, m_I_sL, m_L_sL, m_R_sL, m_AI_sL, m_AL_sL, m_AD_sL, m_AR_sL, m_n_sL, m_I_sR, m_L_sR, m_R_sR, m_AI_sR, m_AL_sR, m_AD_sR, m_AR_sR, m_n_sR, m_I_rI, m_L_rI, m_R_rI, m_AI_rI, m_AL_rI, m_AD_rI, m_AR_rI, m_n_rI, m_I_rL, m_L_rL, m_R_rL, m_AI_rL, m_AL_rL, m_AD_rL, m_AR_rL, m_n_rL, m_I_rD, m_L_rD, m_R_rD, m_AI_rD, m_AL_rD, m_AD_rD, m_AR_rD, m_n_rD, m_I_rR, m_L_rR, m_R_rR, m_AI_rR, m_AL_rR, m_AD_rR, m_AR_rR, m_n_rR, true_and, and_true, and_false, false_and, and_self, if_true, if_false, ite_self, Nat.reduceEqDiff, reduceIte, obt, jlt, jbt, jbd_ite, bind_ite]
        rw [if_neg (show ¬ T = 614 by omega), if_neg (show ¬ T = 616 by omega)]
        exact a10
      · unfold nC; simp only [m_I_sI, m_L_sI, m_R_sI, m_AI_sI, m_AL_sI, m_AD_sI, m_AR_sI, m_n_sI, m_I_sL, m_L_sL, m_R_sL, m_AI_sL, m_AL_sL, m_AD_sL, m_AR_sL, m_n_sL, m_I_sR, m_L_sR, m_R_sR, m_AI_sR, m_AL_sR, m_AD_sR, m_AR_sR, m_n_sR, m_I_rI, m_L_rI, m_R_rI, m_AI_rI, m_AL_rI, m_AD_rI, m_AR_rI, m_n_rI, m_I_rL, m_L_rL, m_R_rL, m_AI_rL, m_AL_rL, m_AD_rL, m_AR_rL, m_n_rL, m_I_rD, m_L_rD, m_R_rD, m_AI_rD, m_AL_rD, m_AD_rD, m_AR_rD, m_n_rD, m_I_rR, m_L_rR, m_R_rR, m_AI_rR, m_AL_rR, m_AD_rR, m_AR_rR, m_n_rR, true_and, and_true, and_false, false_and, and_self, if_true, if_false, ite_self, Nat.reduceEqDiff, reduceIte, obt, jlt, jbt, jbd_ite, bind_ite]; exact a11
      · unfold nR; simp only [m_I_sI, m_L_sI, m_R_sI, m_AI_sI, m_AL_sI, m_AD_sI, m_AR_sI, m_n_sI, m_I_sL, m_L_sL, m_R_sL, m_AI_sL, m_AL_sL, m_AD_sL, m_AR_sL, m_n_sL, m_I_sR, m_L_sR, m_R_sR, m_AI_sR, m_AL_sR, m_AD_sR, m_AR_sR, m_n_sR, m_I_rI, m_L_rI, m_R_rI, m_AI_rI, m_AL_rI, m_AD_rI, m_AR_rI, m_n_rI, m_I_rL, m_L_rL, m_R_rL, m_AI_rL, m_AL_rL, m_AD_rL, m_AR_rL, m_n_rL, m_I_rD, m_L_rD, m_R_rD, m_AI_rD, m_AL_rD, m_AD_rD, m_AR_rD, m_n_rD, m_I_rR, m_L_rR, m_R_rR, m_AI_rR, m_AL_rR, m_AD_rR, m_AR_rR, m_n_rR, true_and, and_true, and_false, false_and, and_self, if_true, if_false, ite_self, Nat.reduceEqDiff, reduceIte, obt, jlt, jbt, jbd_ite, bind_ite]; exact a12
      · unfold nR; simp only [m_I_sI, m_L_sI, m_R_sI, m_AI_sI, m_AL_sI, m_AD_sI, m_AR_sI, m_n_sI, m_I_sL, m_L_sL, m_R_sL, m_AI_sL, m_AL_sL, m_AD_sL, m_AR_sL, m_n_sL, m_I_sR, m_L_sR, m_R_sR, m_AI_sR, m_AL_sR, m_AD_sR, m_AR_sR, m_n_sR, m_I_rI, m_L_rI, m_R_rI, m_AI_rI, m_AL_rI, m_AD_rI, m_AR_rI, m_n_rI, m_I_rL, m_L_rL, m_R_rL, m_AI_rL, m_AL_rL, m_AD_rL, m_AR_rL, m_n_rL, m_I_rD, m_L_rD, m_R_rD, m_AI_rD, m_AL_rD, m_AD_rD, m_AR_rD, m_n_rD, m_I_rR, m_L_rR, m_R_rR, m_AI_rR, m_AL_rR, m_AD_rR, m_AR_rR, m_n_rR, true_and, and_true, and_false, false_and, and_self, if_true, if_false, ite_self, Nat.reduceEqDiff, reduceIte, obt, jlt, jbt, jbd_ite, bind_ite]; exact p3
      · unfold tokAt nC at *
        simp only [m_I_sI, m_L_sI, m_R_sI, m_AI_sI, m_AL_sI, m_AD_sI, m_AR_sI, m_n_sI, m_I_sL, m_L_sL, m_R_sL, m_AI_sL, m_AL_sL, m_AD_sL, m_AR_sL, m_n_sL, m_I_sR, m_L_sR, m_R_sR, m_AI_sR, m_AL_sR, m_AD_sR, m_AR_sR, m_n_sR, m_I_rI, m_L_rI, m_R_rI, m_AI_rI, m_AL_rI, m_AD_rI, m_AR_rI, m_n_rI, m_I_rL, m_L_rL, m_R_rL, m_AI_rL, m_AL_rL, m_AD_rL, m_AR_rL, m_n_rL, m_I_rD, m_L_rD, m_R_rD, m_AI_rD, m_AL_rD, m_AD_rD, m_AR_rD, m_n_rD, m_I_rR, m_L_rR, m_R_rR, m_AI_rR, m_AL_rR, m_AD_rR, m_AR_rR, m_n_rR, true_and, and_true, and_false, false_and, and_self, if_true, if_false, ite_self, Nat.reduceEqDiff, reduceIte, obt, jlt, jbt, jbd_ite, bind_ite]
        exact p4
      · unfold nR; simp only [m_I_sI, m_L_sI, m_R_sI, m_AI_sI, m_AL_sI, m_AD_sI, m_AR_sI, m_n_sI, m_I_sL, m_L_sL, m_R_sL, m_AI_sL, m_AL_sL, m_AD_sL, m_AR_sL, m_n_sL, m_I_sR, m_L_sR, m_R_sR, m_AI_sR, m_AL_sR, m_AD_sR, m_AR_sR, m_n_sR, m_I_rI, m_L_rI, m_R_rI, m_AI_rI, m_AL_rI, m_AD_rI, m_AR_rI, m_n_rI, m_I_rL, m_L_rL, m_R_rL, m_AI_rL, m_AL_rL, m_AD_rL, m_AR_rL, m_n_rL, m_I_rD, m_L_rD, m_R_rD, m_AI_rD, m_AL_rD, m_AD_rD, m_AR_rD, m_n_rD, m_I_rR, m_L_rR, m_R_rR, m_AI_rR, m_AL_rR, m_AD_rR, m_AR_rR, m_n_rR, upd_if, true_and, and_true, and_false, false_and, and_self, if_true, if_false, ite_self, Nat.reduceEqDiff, reduceIte, obt, jlt, jbt, jbd_ite, bind_ite]
      · unfold nR; simp only [m_I_sI, m_L_sI, m_R_sI, m_AI_sI, m_AL_sI, m_AD_sI, m_AR_sI, m_n_sI, m_I_sL, m_L_sL, m_R_sL, m_AI_sL, m_AL_sL, m_AD_sL, m_AR_sL, m_n_sL, m_I_sR, m_L_sR, m_R_sR, m_AI_sR, m_AL_sR, m_AD_sR, m_AR_sR, m_n_sR, m_I_rI, m_L_rI, m_R_rI, m_AI_rI, m_AL_rI, m_AD_rI, m_AR_rI, m_n_rI, m_I_rL, m_L_rL, m_R_rL, m_AI_rL, m_AL_rL, m_AD_rL, m_AR_rL, m_n_rL, m_I_rD, m_L_rD, m_R_rD, m_AI_rD, m_AL_rD, m_AD_rD, m_AR_rD, m_n_rD, m_I_rR, m_L_rR, m_R_rR, m_AI_rR, m_AL_rR, m_AD_rR, m_AR_rR, m_n_rR, true_and, and_true, and_false, false_and, and_self, if_true, if_false, ite_self, Nat.reduceEqDiff, reduceIte, obt, jlt, jbt, jbd_ite, bind_ite]
    have hq3 : ∀ km, jI (nR t np km (jsI R 114 2398 (nI (np + 1)))) 100 2398 = nI q' := fun km => by unfold nR; simp only [m_I_sI, m_L_sI, m_R_sI, m_AI_sI, m_AL_sI, m_AD_sI, m_AR_sI, m_n_sI, m_I_sL, m_L_sL, m_R_sL, m_AI_sL, m_AL_sL, m_AD_sL, m_AR_sL, m_n_sL, m_I_sR, m_L_sR, m_R_sR, m_AI_sR, m_AL_sR, m_AD_sR, m_AR_sR, m_n_sR, m_I_rI, m_L_rI, m_R_rI, m_AI_rI, m_AL_rI, m_AD_rI, m_AR_rI, m_n_rI, m_I_rL, m_L_rL, m_R_rL, m_AI_rL, m_AL_rL, m_AD_rL, m_AR_rL, m_n_rL, m_I_rD, m_L_rD, m_R_rD, m_AI_rD, m_AL_rD, m_AD_rD, m_AR_rD, m_n_rD, m_I_rR, m_L_rR, m_R_rR, m_AI_rR, m_AL_rR, m_AD_rR, m_AR_rR, m_n_rR, true_and, and_true, and_false, false_and, and_self, if_true, if_false, ite_self, Nat.reduceEqDiff, reduceIte, obt, jlt, jbt, jbd_ite, bind_ite]; exact p3
    obtain ⟨C', n1', n2', -⟩ := (hps 0).adv (hq3 0) hq2 k0 k1
    refine ⟨C', ?_, ?_, n2', fun km => ⟨?_, ?_⟩⟩
    · unfold f_X4_part f_X8_addPart
      have hA1 : jA (T + 1) 13 (nI np) = true := jA_n kt.1.1 (by omega) (by omega)
      have hA2 : jA (T + 2) 14 (nI np) = true := jA_n kt.2.1.1 (by omega) (by omega)
      have hlt : nI np < (300 : Int32) := by rw [show (300 : Int32) = nI 300 from rfl, nJ_lt (by omega) (by omega)]; omega
      have hne : ¬ nI np = (-1 : Int32) := by rw [i_eq, nI_toInt (by omega), show (-1 : Int32).toInt = -1 from rfl]; omega
      simp only [k_607, a11, hT.2.2.2.2.2.1, hT.2.2.1, a4, hlt, hL6.1, hL6.2.1, hA1, hA2, nJ_cl (show np < 2147483648 by omega), nJ_1 (show np + 1 < 2147483648 by omega), hne, ly_24 hT.1, k_608, m_I_sI, m_L_sI, m_R_sI, m_AI_sI, m_AL_sI, m_AD_sI, m_AR_sI, m_n_sI, m_I_sL, m_L_sL, m_R_sL, m_AI_sL, m_AL_sL, m_AD_sL, m_AR_sL, m_n_sL, m_I_sR, m_L_sR, m_R_sR, m_AI_sR, m_AL_sR, m_AD_sR, m_AR_sR, m_n_sR, m_I_rI, m_L_rI, m_R_rI, m_AI_rI, m_AL_rI, m_AD_rI, m_AR_rI, m_n_rI, m_I_rL, m_L_rL, m_R_rL, m_AI_rL, m_AL_rL, m_AD_rL, m_AR_rL, m_n_rL, m_I_rD, m_L_rD, m_R_rD, m_AI_rD, m_AL_rD, m_AD_rD, m_AR_rD, m_n_rD, m_I_rR, m_L_rR, m_R_rR, m_AI_rR, m_AL_rR, m_AD_rR, m_AR_rR, m_n_rR, true_and, and_true, and_false, false_and, and_self, if_true, if_false, ite_self, Nat.reduceEqDiff, reduceIte, obt, jlt, jbt, jbd_ite, bind_ite]
      unfold nC at n1'
      rw [n1', obt]
    · unfold f_X12_part f_X12_part_31
      rw [if_pos k_2398, a12, if_pos rfl, p11, if_neg (by rw [i_eq, nI_toInt (by omega), show (300 : Int32).toInt = 300 from rfl]; omega), if_pos k_2398, jlt, nJ_1 (by omega)]
      simp only [m_I_sI, m_L_sI, m_R_sI, m_AI_sI, m_AL_sI, m_AD_sI, m_AR_sI, m_n_sI, m_I_sL, m_L_sL, m_R_sL, m_AI_sL, m_AL_sL, m_AD_sL, m_AR_sL, m_n_sL, m_I_sR, m_L_sR, m_R_sR, m_AI_sR, m_AL_sR, m_AD_sR, m_AR_sR, m_n_sR, m_I_rI, m_L_rI, m_R_rI, m_AI_rI, m_AL_rI, m_AD_rI, m_AR_rI, m_n_rI, m_I_rL, m_L_rL, m_R_rL, m_AI_rL, m_AL_rL, m_AD_rL, m_AR_rL, m_n_rL, m_I_rD, m_L_rD, m_R_rD, m_AI_rD, m_AL_rD, m_AD_rD, m_AR_rD, m_n_rD, m_I_rR, m_L_rR, m_R_rR, m_AI_rR, m_AL_rR, m_AD_rR, m_AR_rR, m_n_rR, true_and, and_true, and_false, false_and, and_self, if_true, if_false, ite_self, Nat.reduceEqDiff, reduceIte, obt, jlt, jbt, jbd_ite, bind_ite, a12]
    · exact node_r hT.2.2.2.1 (by omega) (hT.2.1.fr (p := pPR) ((Fr.refl).sI (by unfold pPR; omega)) (fun f a z => by unfold pPR at z; omega) (fun a z => by have := k16r a; unfold pPR at z; omega)) (by simp only [m_I_sI, m_L_sI, m_R_sI, m_AI_sI, m_AL_sI, m_AD_sI, m_AR_sI, m_n_sI, m_I_sL, m_L_sL, m_R_sL, m_AI_sL, m_AL_sL, m_AD_sL, m_AR_sL, m_n_sL, m_I_sR, m_L_sR, m_R_sR, m_AI_sR, m_AL_sR, m_AD_sR, m_AR_sR, m_n_sR, m_I_rI, m_L_rI, m_R_rI, m_AI_rI, m_AL_rI, m_AD_rI, m_AR_rI, m_n_rI, m_I_rL, m_L_rL, m_R_rL, m_AI_rL, m_AL_rL, m_AD_rL, m_AR_rL, m_n_rL, m_I_rD, m_L_rD, m_R_rD, m_AI_rD, m_AL_rD, m_AD_rD, m_AR_rD, m_n_rD, m_I_rR, m_L_rR, m_R_rR, m_AI_rR, m_AL_rR, m_AD_rR, m_AR_rR, m_n_rR, true_and, and_true, and_false, false_and, and_self, if_true, if_false, ite_self, Nat.reduceEqDiff, reduceIte, obt, jlt, jbt, jbd_ite, bind_ite]; exact hT.2.2.2.2.2.2.2.2.2) (by simp only [m_I_sI, m_L_sI, m_R_sI, m_AI_sI, m_AL_sI, m_AD_sI, m_AR_sI, m_n_sI, m_I_sL, m_L_sL, m_R_sL, m_AI_sL, m_AL_sL, m_AD_sL, m_AR_sL, m_n_sL, m_I_sR, m_L_sR, m_R_sR, m_AI_sR, m_AL_sR, m_AD_sR, m_AR_sR, m_n_sR, m_I_rI, m_L_rI, m_R_rI, m_AI_rI, m_AL_rI, m_AD_rI, m_AR_rI, m_n_rI, m_I_rL, m_L_rL, m_R_rL, m_AI_rL, m_AL_rL, m_AD_rL, m_AR_rL, m_n_rL, m_I_rD, m_L_rD, m_R_rD, m_AI_rD, m_AL_rD, m_AD_rD, m_AR_rD, m_n_rD, m_I_rR, m_L_rR, m_R_rR, m_AI_rR, m_AL_rR, m_AD_rR, m_AR_rR, m_n_rR]; exact p10) km
    · obtain ⟨C'', m1, m2, m3⟩ := (hps km).adv (hq3 km) hq2 k0 k1
      rw [n1'] at m1
      injection m1 with m1
      rw [m1]
      exact m3

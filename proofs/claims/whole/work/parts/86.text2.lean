/-! PURE: the parser: a rule ends; a whole text -/
def ruC (T nr : Nat) (v : Int64) (x : Int32) (C : jM) : jM := jsI (jrI (jrL C (T + 4) (vp_updL (jAL C (T + 4)) nr v)) (T + 5) (upd (jAI C (T + 5)) nr x)) 49 T (nI (nr + 1))
def ruR (t nr : Nat) (v : Int64) (y : Int32) (R : jM) : jM := jrI (jrI (jrL R 2416 (vp_updL (jAL R 2416) (24 * t + nr) v)) 2417 (upd (jAI R 2417) (24 * t + nr) y)) 2415 (upd (jAI R 2415) t (nI (nr + 1)))
theorem t_45 {T : Nat} (hk : jK T = 6) : T ≠ 607 ∧ T ≠ 608 ∧ T + 4 ≠ 616 ∧ T + 4 ≠ 617 ∧ T + 5 ≠ 616 ∧ T + 5 ≠ 617 ∧ T + 4 ≠ 609 ∧ T + 5 ≠ 609 := by
  have kt := kd_text hk
  have l16 := ln_616
  have l17 := ln_617
  have q : ∀ j z, jLen z ≠ jLen j → z ≠ j := fun j z hz e => hz (by rw [e])
  have k9 := k_609
  refine ⟨fun z => by rw [z, k_607] at hk; omega, fun z => by rw [z, k_608] at hk; omega, q _ _ (by omega), q _ _ (by omega), q _ _ (by omega), q _ _ (by omega), fun z => ?_, fun z => ?_⟩
  · have := kt.2.2.2.1.1; rw [z] at this; omega
  · have := kt.2.2.2.2.1; rw [z] at this; omega
theorem PS.ru {B : Nat → Int32} {e N T t : Nat} {A : Nat → Prop} {np nr cn : Nat} {C R : jM} (h : PS B e N T t A np nr cn 0 C R) (hnr : nr < 24) (v : Int64) (x y : Int32) : PS B e N T t A np (nr + 1) cn 0 (ruC T nr v x C) (ruR t nr v y R) := by
  obtain ⟨hT, a1, a2, a3, a4, a5, a6, a7, a8, a9, a10, a11, a12, a13, a14, q, b1, b2, b3⟩ := h
  obtain ⟨n1, n2, n3, n4, n5, n6, n7, n8⟩ := t_45 hT.2.2.1
  have hT' := hT
  obtain ⟨h1, h2, h3, h4, h5, h6, h7, h8, h9, h10⟩ := hT'
  have kt := kd_text h3
  have hC : Lay (ruC T nr v x C) := h1.fr (p := pXC T) ((((Fr.refl).rL (by unfold pXC pPC; omega)).rI (by unfold pXC pPC; omega)).sI (by unfold pXC pPC; omega)) (fun f a z => by unfold pXC pPC at z; omega) (fun a z => by
    unfold pXC pPC at z
    have : a = T + 1 ∨ a = T + 2 ∨ a = T + 3 ∨ a = T + 4 ∨ a = T + 5 ∨ a = 616 ∨ a = 617 := by omega
    rcases this with w | w | w | w | w | w | w
    · rw [w]; omega
    · rw [w]; omega
    · rw [w]; omega
    · rw [w]; omega
    · rw [w]; omega
    · rw [w, k_616]; omega
    · rw [w, k_617]; omega)
  have hR : Lay (ruR t nr v y R) := h2.fr (p := pXR) ((((Fr.refl).rL (by unfold pXR; omega)).rI (by unfold pXR; omega)).rI (by unfold pXR; omega)) (fun f a z => by unfold pXR pPR at z; omega) (fun a z => by have := k16r a; unfold pXR pPR at z; omega)
  have e609 : jAI (ruC T nr v x C) 609 = jAI C 609 := by
    unfold ruC
    simp only [m_I_sI, m_L_sI, m_R_sI, m_AI_sI, m_AL_sI, m_AD_sI, m_AR_sI, m_n_sI, m_I_sL, m_L_sL, m_R_sL, m_AI_sL, m_AL_sL, m_AD_sL, m_AR_sL, m_n_sL, m_I_sR, m_L_sR, m_R_sR, m_AI_sR, m_AL_sR, m_AD_sR, m_AR_sR, m_n_sR, m_I_rI, m_L_rI, m_R_rI, m_AI_rI, m_AL_rI, m_AD_rI, m_AR_rI, m_n_rI, m_I_rL, m_L_rL, m_R_rL, m_AI_rL, m_AL_rL, m_AD_rL, m_AR_rL, m_n_rL, m_I_rD, m_L_rD, m_R_rD, m_AI_rD, m_AL_rD, m_AD_rD, m_AR_rD, m_n_rD, m_I_rR, m_L_rR, m_R_rR, m_AI_rR, m_AL_rR, m_AD_rR, m_AR_rR, m_n_rR, true_and, and_true, and_false, false_and, and_self, if_true, if_false, ite_self, Nat.reduceEqDiff, reduceIte, obt, jlt, jbt, jbd_ite, bind_ite]
    rw [if_neg (by omega)]
  refine ⟨⟨hC, hR, h3, h4, h5, ?_, ?_, ?_, h9.f ?_ ?_ ?_ ?_, ?_⟩, a1, by omega, a3, ?_, ?_, ?_, ?_, ?_, fun r hr => ?_, fun i hi => ?_, ?_, ?_, a13, fun z => absurd rfl z, q, b1, ?_, fun _ => ?_⟩
  · unfold ruC; simp only [m_I_sI, m_L_sI, m_R_sI, m_AI_sI, m_AL_sI, m_AD_sI, m_AR_sI, m_n_sI, m_I_sL, m_L_sL, m_R_sL, m_AI_sL, m_AL_sL, m_AD_sL, m_AR_sL, m_n_sL, m_I_sR, m_L_sR, m_R_sR, m_AI_sR, m_AL_sR, m_AD_sR, m_AR_sR, m_n_sR, m_I_rI, m_L_rI, m_R_rI, m_AI_rI, m_AL_rI, m_AD_rI, m_AR_rI, m_n_rI, m_I_rL, m_L_rL, m_R_rL, m_AI_rL, m_AL_rL, m_AD_rL, m_AR_rL, m_n_rL, m_I_rD, m_L_rD, m_R_rD, m_AI_rD, m_AL_rD, m_AD_rD, m_AR_rD, m_n_rD, m_I_rR, m_L_rR, m_R_rR, m_AI_rR, m_AL_rR, m_AD_rR, m_AR_rR, m_n_rR, true_and, and_true, and_false, false_and, and_self, if_true, if_false, ite_self, Nat.reduceEqDiff, reduceIte, obt, jlt, jbt, jbd_ite, bind_ite]; exact h6
  · unfold ruC; simp only [m_I_sI, m_L_sI, m_R_sI, m_AI_sI, m_AL_sI, m_AD_sI, m_AR_sI, m_n_sI, m_I_sL, m_L_sL, m_R_sL, m_AI_sL, m_AL_sL, m_AD_sL, m_AR_sL, m_n_sL, m_I_sR, m_L_sR, m_R_sR, m_AI_sR, m_AL_sR, m_AD_sR, m_AR_sR, m_n_sR, m_I_rI, m_L_rI, m_R_rI, m_AI_rI, m_AL_rI, m_AD_rI, m_AR_rI, m_n_rI, m_I_rL, m_L_rL, m_R_rL, m_AI_rL, m_AL_rL, m_AD_rL, m_AR_rL, m_n_rL, m_I_rD, m_L_rD, m_R_rD, m_AI_rD, m_AL_rD, m_AD_rD, m_AR_rD, m_n_rD, m_I_rR, m_L_rR, m_R_rR, m_AI_rR, m_AL_rR, m_AD_rR, m_AR_rR, m_n_rR, true_and, and_true, and_false, false_and, and_self, if_true, if_false, ite_self, Nat.reduceEqDiff, reduceIte, obt, jlt, jbt, jbd_ite, bind_ite]; exact h7
  · rw [← h8]; funext j; unfold cB; rw [e609]
  · unfold ruR; simp only [m_I_sI, m_L_sI, m_R_sI, m_AI_sI, m_AL_sI, m_AD_sI, m_AR_sI, m_n_sI, m_I_sL, m_L_sL, m_R_sL, m_AI_sL, m_AL_sL, m_AD_sL, m_AR_sL, m_n_sL, m_I_sR, m_L_sR, m_R_sR, m_AI_sR, m_AL_sR, m_AD_sR, m_AR_sR, m_n_sR, m_I_rI, m_L_rI, m_R_rI, m_AI_rI, m_AL_rI, m_AD_rI, m_AR_rI, m_n_rI, m_I_rL, m_L_rL, m_R_rL, m_AI_rL, m_AL_rL, m_AD_rL, m_AR_rL, m_n_rL, m_I_rD, m_L_rD, m_R_rD, m_AI_rD, m_AL_rD, m_AD_rD, m_AR_rD, m_n_rD, m_I_rR, m_L_rR, m_R_rR, m_AI_rR, m_AL_rR, m_AD_rR, m_AR_rR, m_n_rR, true_and, and_true, and_false, false_and, and_self, if_true, if_false, ite_self, Nat.reduceEqDiff, reduceIte, obt, jlt, jbt, jbd_ite, bind_ite]
  · unfold ruR; simp only [m_I_sI, m_L_sI, m_R_sI, m_AI_sI, m_AL_sI, m_AD_sI, m_AR_sI, m_n_sI, m_I_sL, m_L_sL, m_R_sL, m_AI_sL, m_AL_sL, m_AD_sL, m_AR_sL, m_n_sL, m_I_sR, m_L_sR, m_R_sR, m_AI_sR, m_AL_sR, m_AD_sR, m_AR_sR, m_n_sR, m_I_rI, m_L_rI, m_R_rI, m_AI_rI, m_AL_rI, m_AD_rI, m_AR_rI, m_n_rI, m_I_rL, m_L_rL, m_R_rL, m_AI_rL, m_AL_rL, m_AD_rL, m_AR_rL, m_n_rL, m_I_rD, m_L_rD, m_R_rD, m_AI_rD, m_AL_rD, m_AD_rD, m_AR_rD, m_n_rD, m_I_rR, m_L_rR, m_R_rR, m_AI_rR, m_AL_rR, m_AD_rR, m_AR_rR, m_n_rR, true_and, and_true, and_false, false_and, and_self, if_true, if_false, ite_self, Nat.reduceEqDiff, reduceIte, obt, jlt, jbt, jbd_ite, bind_ite]
  · unfold ruR; simp only [m_I_sI, m_L_sI, m_R_sI, m_AI_sI, m_AL_sI, m_AD_sI, m_AR_sI, m_n_sI, m_I_sL, m_L_sL, m_R_sL, m_AI_sL, m_AL_sL, m_AD_sL, m_AR_sL, m_n_sL, m_I_sR, m_L_sR, m_R_sR, m_AI_sR, m_AL_sR, m_AD_sR, m_AR_sR, m_n_sR, m_I_rI, m_L_rI, m_R_rI, m_AI_rI, m_AL_rI, m_AD_rI, m_AR_rI, m_n_rI, m_I_rL, m_L_rL, m_R_rL, m_AI_rL, m_AL_rL, m_AD_rL, m_AR_rL, m_n_rL, m_I_rD, m_L_rD, m_R_rD, m_AI_rD, m_AL_rD, m_AD_rD, m_AR_rD, m_n_rD, m_I_rR, m_L_rR, m_R_rR, m_AI_rR, m_AL_rR, m_AD_rR, m_AR_rR, m_n_rR, true_and, and_true, and_false, false_and, and_self, if_true, if_false, ite_self, Nat.reduceEqDiff, reduceIte, obt, jlt, jbt, jbd_ite, bind_ite]
  · unfold ruR; simp only [m_I_sI, m_L_sI, m_R_sI, m_AI_sI, m_AL_sI, m_AD_sI, m_AR_sI, m_n_sI, m_I_sL, m_L_sL, m_R_sL, m_AI_sL, m_AL_sL, m_AD_sL, m_AR_sL, m_n_sL, m_I_sR, m_L_sR, m_R_sR, m_AI_sR, m_AL_sR, m_AD_sR, m_AR_sR, m_n_sR, m_I_rI, m_L_rI, m_R_rI, m_AI_rI, m_AL_rI, m_AD_rI, m_AR_rI, m_n_rI, m_I_rL, m_L_rL, m_R_rL, m_AI_rL, m_AL_rL, m_AD_rL, m_AR_rL, m_n_rL, m_I_rD, m_L_rD, m_R_rD, m_AI_rD, m_AL_rD, m_AD_rD, m_AR_rD, m_n_rD, m_I_rR, m_L_rR, m_R_rR, m_AI_rR, m_AL_rR, m_AD_rR, m_AR_rR, m_n_rR, true_and, and_true, and_false, false_and, and_self, if_true, if_false, ite_self, Nat.reduceEqDiff, reduceIte, obt, jlt, jbt, jbd_ite, bind_ite]
  · unfold ruR; simp only [m_I_sI, m_L_sI, m_R_sI, m_AI_sI, m_AL_sI, m_AD_sI, m_AR_sI, m_n_sI, m_I_sL, m_L_sL, m_R_sL, m_AI_sL, m_AL_sL, m_AD_sL, m_AR_sL, m_n_sL, m_I_sR, m_L_sR, m_R_sR, m_AI_sR, m_AL_sR, m_AD_sR, m_AR_sR, m_n_sR, m_I_rI, m_L_rI, m_R_rI, m_AI_rI, m_AL_rI, m_AD_rI, m_AR_rI, m_n_rI, m_I_rL, m_L_rL, m_R_rL, m_AI_rL, m_AL_rL, m_AD_rL, m_AR_rL, m_n_rL, m_I_rD, m_L_rD, m_R_rD, m_AI_rD, m_AL_rD, m_AD_rD, m_AR_rD, m_n_rD, m_I_rR, m_L_rR, m_R_rR, m_AI_rR, m_AL_rR, m_AD_rR, m_AR_rR, m_n_rR, true_and, and_true, and_false, false_and, and_self, if_true, if_false, ite_self, Nat.reduceEqDiff, reduceIte, obt, jlt, jbt, jbd_ite, bind_ite]; exact h10
  · unfold ruC; simp only [m_I_sI, m_L_sI, m_R_sI, m_AI_sI, m_AL_sI, m_AD_sI, m_AR_sI, m_n_sI, m_I_sL, m_L_sL, m_R_sL, m_AI_sL, m_AL_sL, m_AD_sL, m_AR_sL, m_n_sL, m_I_sR, m_L_sR, m_R_sR, m_AI_sR, m_AL_sR, m_AD_sR, m_AR_sR, m_n_sR, m_I_rI, m_L_rI, m_R_rI, m_AI_rI, m_AL_rI, m_AD_rI, m_AR_rI, m_n_rI, m_I_rL, m_L_rL, m_R_rL, m_AI_rL, m_AL_rL, m_AD_rL, m_AR_rL, m_n_rL, m_I_rD, m_L_rD, m_R_rD, m_AI_rD, m_AL_rD, m_AD_rD, m_AR_rD, m_n_rD, m_I_rR, m_L_rR, m_R_rR, m_AI_rR, m_AL_rR, m_AD_rR, m_AR_rR, m_n_rR, true_and, and_true, and_false, false_and, and_self, if_true, if_false, ite_self, Nat.reduceEqDiff, reduceIte, obt, jlt, jbt, jbd_ite, bind_ite]; exact a4
  · unfold ruC; simp only [m_I_sI, m_L_sI, m_R_sI, m_AI_sI, m_AL_sI, m_AD_sI, m_AR_sI, m_n_sI, m_I_sL, m_L_sL, m_R_sL, m_AI_sL, m_AL_sL, m_AD_sL, m_AR_sL, m_n_sL, m_I_sR, m_L_sR, m_R_sR, m_AI_sR, m_AL_sR, m_AD_sR, m_AR_sR, m_n_sR, m_I_rI, m_L_rI, m_R_rI, m_AI_rI, m_AL_rI, m_AD_rI, m_AR_rI, m_n_rI, m_I_rL, m_L_rL, m_R_rL, m_AI_rL, m_AL_rL, m_AD_rL, m_AR_rL, m_n_rL, m_I_rD, m_L_rD, m_R_rD, m_AI_rD, m_AL_rD, m_AD_rD, m_AR_rD, m_n_rD, m_I_rR, m_L_rR, m_R_rR, m_AI_rR, m_AL_rR, m_AD_rR, m_AR_rR, m_n_rR, true_and, and_true, and_false, false_and, and_self, if_true, if_false, ite_self, Nat.reduceEqDiff, reduceIte, obt, jlt, jbt, jbd_ite, bind_ite]
  · unfold ruR; simp only [m_I_sI, m_L_sI, m_R_sI, m_AI_sI, m_AL_sI, m_AD_sI, m_AR_sI, m_n_sI, m_I_sL, m_L_sL, m_R_sL, m_AI_sL, m_AL_sL, m_AD_sL, m_AR_sL, m_n_sL, m_I_sR, m_L_sR, m_R_sR, m_AI_sR, m_AL_sR, m_AD_sR, m_AR_sR, m_n_sR, m_I_rI, m_L_rI, m_R_rI, m_AI_rI, m_AL_rI, m_AD_rI, m_AR_rI, m_n_rI, m_I_rL, m_L_rL, m_R_rL, m_AI_rL, m_AL_rL, m_AD_rL, m_AR_rL, m_n_rL, m_I_rD, m_L_rD, m_R_rD, m_AI_rD, m_AL_rD, m_AD_rD, m_AR_rD, m_n_rD, m_I_rR, m_L_rR, m_R_rR, m_AI_rR, m_AL_rR, m_AD_rR, m_AR_rR, m_n_rR, upd_if, true_and, and_true, and_false, false_and, and_self, if_true, if_false, ite_self, Nat.reduceEqDiff, reduceIte, obt, jlt, jbt, jbd_ite, bind_ite]
  · unfold ruC; simp only [m_I_sI, m_L_sI, m_R_sI, m_AI_sI, m_AL_sI, m_AD_sI, m_AR_sI, m_n_sI, m_I_sL, m_L_sL, m_R_sL, m_AI_sL, m_AL_sL, m_AD_sL, m_AR_sL, m_n_sL, m_I_sR, m_L_sR, m_R_sR, m_AI_sR, m_AL_sR, m_AD_sR, m_AR_sR, m_n_sR, m_I_rI, m_L_rI, m_R_rI, m_AI_rI, m_AL_rI, m_AD_rI, m_AR_rI, m_n_rI, m_I_rL, m_L_rL, m_R_rL, m_AI_rL, m_AL_rL, m_AD_rL, m_AR_rL, m_n_rL, m_I_rD, m_L_rD, m_R_rD, m_AI_rD, m_AL_rD, m_AD_rD, m_AR_rD, m_n_rD, m_I_rR, m_L_rR, m_R_rR, m_AI_rR, m_AL_rR, m_AD_rR, m_AR_rR, m_n_rR, true_and, and_true, and_false, false_and, and_self, if_true, if_false, ite_self, Nat.reduceEqDiff, reduceIte, obt, jlt, jbt, jbd_ite, bind_ite]; exact a7
  · unfold ruR; simp only [m_I_sI, m_L_sI, m_R_sI, m_AI_sI, m_AL_sI, m_AD_sI, m_AR_sI, m_n_sI, m_I_sL, m_L_sL, m_R_sL, m_AI_sL, m_AL_sL, m_AD_sL, m_AR_sL, m_n_sL, m_I_sR, m_L_sR, m_R_sR, m_AI_sR, m_AL_sR, m_AD_sR, m_AR_sR, m_n_sR, m_I_rI, m_L_rI, m_R_rI, m_AI_rI, m_AL_rI, m_AD_rI, m_AR_rI, m_n_rI, m_I_rL, m_L_rL, m_R_rL, m_AI_rL, m_AL_rL, m_AD_rL, m_AR_rL, m_n_rL, m_I_rD, m_L_rD, m_R_rD, m_AI_rD, m_AL_rD, m_AD_rD, m_AR_rD, m_n_rD, m_I_rR, m_L_rR, m_R_rR, m_AI_rR, m_AL_rR, m_AD_rR, m_AR_rR, m_n_rR, true_and, and_true, and_false, false_and, and_self, if_true, if_false, ite_self, Nat.reduceEqDiff, reduceIte, obt, jlt, jbt, jbd_ite, bind_ite]; exact a8
  · unfold ruC ruR
    simp only [m_I_sI, m_L_sI, m_R_sI, m_AI_sI, m_AL_sI, m_AD_sI, m_AR_sI, m_n_sI, m_I_sL, m_L_sL, m_R_sL, m_AI_sL, m_AL_sL, m_AD_sL, m_AR_sL, m_n_sL, m_I_sR, m_L_sR, m_R_sR, m_AI_sR, m_AL_sR, m_AD_sR, m_AR_sR, m_n_sR, m_I_rI, m_L_rI, m_R_rI, m_AI_rI, m_AL_rI, m_AD_rI, m_AR_rI, m_n_rI, m_I_rL, m_L_rL, m_R_rL, m_AI_rL, m_AL_rL, m_AD_rL, m_AR_rL, m_n_rL, m_I_rD, m_L_rD, m_R_rD, m_AI_rD, m_AL_rD, m_AD_rD, m_AR_rD, m_n_rD, m_I_rR, m_L_rR, m_R_rR, m_AI_rR, m_AL_rR, m_AD_rR, m_AR_rR, m_n_rR, updL_if, true_and, and_true, and_false, false_and, and_self, if_true, if_false, ite_self, Nat.reduceEqDiff, reduceIte, obt, jlt, jbt, jbd_ite, bind_ite]
    by_cases c : r = nr
    · subst c; rw [if_pos rfl, if_pos rfl]
    · rw [if_neg c, if_neg (by omega)]; exact a9 r (by omega)
  · unfold ruC ruR
    simp only [m_I_sI, m_L_sI, m_R_sI, m_AI_sI, m_AL_sI, m_AD_sI, m_AR_sI, m_n_sI, m_I_sL, m_L_sL, m_R_sL, m_AI_sL, m_AL_sL, m_AD_sL, m_AR_sL, m_n_sL, m_I_sR, m_L_sR, m_R_sR, m_AI_sR, m_AL_sR, m_AD_sR, m_AR_sR, m_n_sR, m_I_rI, m_L_rI, m_R_rI, m_AI_rI, m_AL_rI, m_AD_rI, m_AR_rI, m_n_rI, m_I_rL, m_L_rL, m_R_rL, m_AI_rL, m_AL_rL, m_AD_rL, m_AR_rL, m_n_rL, m_I_rD, m_L_rD, m_R_rD, m_AI_rD, m_AL_rD, m_AD_rD, m_AR_rD, m_n_rD, m_I_rR, m_L_rR, m_R_rR, m_AI_rR, m_AL_rR, m_AD_rR, m_AR_rR, m_n_rR, true_and, and_true, and_false, false_and, and_self, if_true, if_false, ite_self, Nat.reduceEqDiff, reduceIte, obt, jlt, jbt, jbd_ite, bind_ite]
    rw [if_neg (show ¬ T = 612 by omega), if_neg (show ¬ T = 612 by omega)]
    exact a10 i hi
  · unfold ruC; simp only [m_I_sI, m_L_sI, m_R_sI, m_AI_sI, m_AL_sI, m_AD_sI, m_AR_sI, m_n_sI, m_I_sL, m_L_sL, m_R_sL, m_AI_sL, m_AL_sL, m_AD_sL, m_AR_sL, m_n_sL, m_I_sR, m_L_sR, m_R_sR, m_AI_sR, m_AL_sR, m_AD_sR, m_AR_sR, m_n_sR, m_I_rI, m_L_rI, m_R_rI, m_AI_rI, m_AL_rI, m_AD_rI, m_AR_rI, m_n_rI, m_I_rL, m_L_rL, m_R_rL, m_AI_rL, m_AL_rL, m_AD_rL, m_AR_rL, m_n_rL, m_I_rD, m_L_rD, m_R_rD, m_AI_rD, m_AL_rD, m_AD_rD, m_AR_rD, m_n_rD, m_I_rR, m_L_rR, m_R_rR, m_AI_rR, m_AL_rR, m_AD_rR, m_AR_rR, m_n_rR, true_and, and_true, and_false, false_and, and_self, if_true, if_false, ite_self, Nat.reduceEqDiff, reduceIte, obt, jlt, jbt, jbd_ite, bind_ite]; exact a11
  · unfold ruR; simp only [m_I_sI, m_L_sI, m_R_sI, m_AI_sI, m_AL_sI, m_AD_sI, m_AR_sI, m_n_sI, m_I_sL, m_L_sL, m_R_sL, m_AI_sL, m_AL_sL, m_AD_sL, m_AR_sL, m_n_sL, m_I_sR, m_L_sR, m_R_sR, m_AI_sR, m_AL_sR, m_AD_sR, m_AR_sR, m_n_sR, m_I_rI, m_L_rI, m_R_rI, m_AI_rI, m_AL_rI, m_AD_rI, m_AR_rI, m_n_rI, m_I_rL, m_L_rL, m_R_rL, m_AI_rL, m_AL_rL, m_AD_rL, m_AR_rL, m_n_rL, m_I_rD, m_L_rD, m_R_rD, m_AI_rD, m_AL_rD, m_AD_rD, m_AR_rD, m_n_rD, m_I_rR, m_L_rR, m_R_rR, m_AI_rR, m_AL_rR, m_AD_rR, m_AR_rR, m_n_rR, true_and, and_true, and_false, false_and, and_self, if_true, if_false, ite_self, Nat.reduceEqDiff, reduceIte, obt, jlt, jbt, jbd_ite, bind_ite]; exact a12
  · unfold ruR; simp only [m_I_sI, m_L_sI, m_R_sI, m_AI_sI, m_AL_sI, m_AD_sI, m_AR_sI, m_n_sI, m_I_sL, m_L_sL, m_R_sL, m_AI_sL, m_AL_sL, m_AD_sL, m_AR_sL, m_n_sL, m_I_sR, m_L_sR, m_R_sR, m_AI_sR, m_AL_sR, m_AD_sR, m_AR_sR, m_n_sR, m_I_rI, m_L_rI, m_R_rI, m_AI_rI, m_AL_rI, m_AD_rI, m_AR_rI, m_n_rI, m_I_rL, m_L_rL, m_R_rL, m_AI_rL, m_AL_rL, m_AD_rL, m_AR_rL, m_n_rL, m_I_rD, m_L_rD, m_R_rD, m_AI_rD, m_AL_rD, m_AD_rD, m_AR_rD, m_n_rD, m_I_rR, m_L_rR, m_R_rR, m_AI_rR, m_AL_rR, m_AD_rR, m_AR_rR, m_n_rR, true_and, and_true, and_false, false_and, and_self, if_true, if_false, ite_self, Nat.reduceEqDiff, reduceIte, obt, jlt, jbt, jbd_ite, bind_ite]; exact b2
  · obtain ⟨c1, c2, c3⟩ := b3 rfl
    refine ⟨?_, ?_, ?_⟩
    · unfold tokAt ruC at *
      simp only [m_I_sI, m_L_sI, m_R_sI, m_AI_sI, m_AL_sI, m_AD_sI, m_AR_sI, m_n_sI, m_I_sL, m_L_sL, m_R_sL, m_AI_sL, m_AL_sL, m_AD_sL, m_AR_sL, m_n_sL, m_I_sR, m_L_sR, m_R_sR, m_AI_sR, m_AL_sR, m_AD_sR, m_AR_sR, m_n_sR, m_I_rI, m_L_rI, m_R_rI, m_AI_rI, m_AL_rI, m_AD_rI, m_AR_rI, m_n_rI, m_I_rL, m_L_rL, m_R_rL, m_AI_rL, m_AL_rL, m_AD_rL, m_AR_rL, m_n_rL, m_I_rD, m_L_rD, m_R_rD, m_AI_rD, m_AL_rD, m_AD_rD, m_AR_rD, m_n_rD, m_I_rR, m_L_rR, m_R_rR, m_AI_rR, m_AL_rR, m_AD_rR, m_AR_rR, m_n_rR, true_and, and_true, and_false, false_and, and_self, if_true, if_false, ite_self, Nat.reduceEqDiff, reduceIte, obt, jlt, jbt, jbd_ite, bind_ite]
      exact c1
    · unfold ruR; simp only [m_I_sI, m_L_sI, m_R_sI, m_AI_sI, m_AL_sI, m_AD_sI, m_AR_sI, m_n_sI, m_I_sL, m_L_sL, m_R_sL, m_AI_sL, m_AL_sL, m_AD_sL, m_AR_sL, m_n_sL, m_I_sR, m_L_sR, m_R_sR, m_AI_sR, m_AL_sR, m_AD_sR, m_AR_sR, m_n_sR, m_I_rI, m_L_rI, m_R_rI, m_AI_rI, m_AL_rI, m_AD_rI, m_AR_rI, m_n_rI, m_I_rL, m_L_rL, m_R_rL, m_AI_rL, m_AL_rL, m_AD_rL, m_AR_rL, m_n_rL, m_I_rD, m_L_rD, m_R_rD, m_AI_rD, m_AL_rD, m_AD_rD, m_AR_rD, m_n_rD, m_I_rR, m_L_rR, m_R_rR, m_AI_rR, m_AL_rR, m_AD_rR, m_AR_rR, m_n_rR, true_and, and_true, and_false, false_and, and_self, if_true, if_false, ite_self, Nat.reduceEqDiff, reduceIte, obt, jlt, jbt, jbd_ite, bind_ite]; exact c2
    · unfold ruR; simp only [m_I_sI, m_L_sI, m_R_sI, m_AI_sI, m_AL_sI, m_AD_sI, m_AR_sI, m_n_sI, m_I_sL, m_L_sL, m_R_sL, m_AI_sL, m_AL_sL, m_AD_sL, m_AR_sL, m_n_sL, m_I_sR, m_L_sR, m_R_sR, m_AI_sR, m_AL_sR, m_AD_sR, m_AR_sR, m_n_sR, m_I_rI, m_L_rI, m_R_rI, m_AI_rI, m_AL_rI, m_AD_rI, m_AR_rI, m_n_rI, m_I_rL, m_L_rL, m_R_rL, m_AI_rL, m_AL_rL, m_AD_rL, m_AR_rL, m_n_rL, m_I_rD, m_L_rD, m_R_rD, m_AI_rD, m_AL_rD, m_AD_rD, m_AR_rD, m_n_rD, m_I_rR, m_L_rR, m_R_rR, m_AI_rR, m_AL_rR, m_AD_rR, m_AR_rR, m_n_rR, true_and, and_true, and_false, false_and, and_self, if_true, if_false, ite_self, Nat.reduceEqDiff, reduceIte, obt, jlt, jbt, jbd_ite, bind_ite]; exact c3
/-- the rule is told in both -/
theorem add_c {T nr : Nat} {C : jM} (hC : Lay C) (hk : jK T = 6) (h49 : jI C 49 T = nI nr) (hnr : nr < 24) (v : Int64) (x : Int32) : f_X8_addRule T v x C = some (ruC T nr v x C) := by
  have kt := kd_text hk
  have hL := hC.2.2.2.1 T hk
  have a4 : jA (T + 4) 14 (nI nr) = true := jA_n kt.2.2.2.1.1 (by rw [kt.2.2.2.1.2]; omega) (by omega)
  have a5 : jA (T + 5) 13 (nI nr) = true := jA_n kt.2.2.2.2.1 (by rw [kt.2.2.2.2.2]; omega) (by omega)
  have hlt : ¬ (24 : Int32) ≤ nI nr := by rw [show (24 : Int32) = nI 24 from rfl, nJ_le (by omega) (by omega)]; omega
  unfold f_X8_addRule ruC
  simp only [hk, h49, hlt, hL.2.2.2.1, hL.2.2.2.2, a4, a5, nJ_cl (show nr < 2147483648 by omega), nJ_1 (show nr + 1 < 2147483648 by omega), m_I_sI, m_L_sI, m_R_sI, m_AI_sI, m_AL_sI, m_AD_sI, m_AR_sI, m_n_sI, m_I_sL, m_L_sL, m_R_sL, m_AI_sL, m_AL_sL, m_AD_sL, m_AR_sL, m_n_sL, m_I_sR, m_L_sR, m_R_sR, m_AI_sR, m_AL_sR, m_AD_sR, m_AR_sR, m_n_sR, m_I_rI, m_L_rI, m_R_rI, m_AI_rI, m_AL_rI, m_AD_rI, m_AR_rI, m_n_rI, m_I_rL, m_L_rL, m_R_rL, m_AI_rL, m_AL_rL, m_AD_rL, m_AR_rL, m_n_rL, m_I_rD, m_L_rD, m_R_rD, m_AI_rD, m_AL_rD, m_AD_rD, m_AR_rD, m_n_rD, m_I_rR, m_L_rR, m_R_rR, m_AI_rR, m_AL_rR, m_AD_rR, m_AR_rR, m_n_rR, true_and, and_true, and_false, false_and, and_self, if_true, if_false, ite_self, Nat.reduceEqDiff, reduceIte, obt, jlt, jbt, jbd_ite, bind_ite]
theorem end_ok {B : Nat → Int32} {e N T t : Nat} {C0 R0 : jM} {np nr : Nat} {fl : Int32} {C R : jM} (h : TS B e N T t C0 R0 np nr fl C R) {v : Int64} (hv : fl = 0 → v = jL C 42 608) (hnr : fl = 0 → nr < 24) :
    ∃ C' R' np' nr' fl', (∀ k31 i, f_X4_parse_127 k31 607 i v C = k31 607 (i + 1) C') ∧ (∀ k29, f_X12_readText_132 k29 2398 (nI t) R = k29 2398 (nI t) R') ∧ TS B e N T t C0 R0 np' nr' fl' C' R' ∧ (fl' = 0 → nr' = nr + 1 ∧ nr < 24) := by
  obtain ⟨hP, hs2, hs3, hs4, hs5, hs6⟩ := h
  have h : TS B e N T t C0 R0 np nr fl C R := ⟨hP, hs2, hs3, hs4, hs5, hs6⟩
  have hT := hP.pt
  have hT33 := hT.2.2.2.1
  have n0 : nI 0 = (0 : Int32) := rfl
  obtain ⟨C1, R1, f1, t1, t2, t3, t4, t5⟩ := take_ok hP (K := 2) (km := 40) (by decide) (by decide) (by decide) (by decide)
  obtain ⟨C2, R2, f2, t6, t7, t8, t9, t10⟩ := take_ok t3 (K := 61) (km := 161) (by decide) (by decide) (by decide) (by decide)
  -- the rules so far: where there was no fault
  have key : ∃ ru : Nat → Nat × Nat × Nat, (∀ r, r < nr → (ru r).1 ≤ np ∧ (ru r).2.2 ≤ np) ∧ (fl = 0 → Fin' T t 0 np C R ∧ RU T t np nr ru C R) := by
    by_cases cf : fl = 0
    · obtain ⟨g1, ru, g2⟩ := hs6 cf
      exact ⟨ru, fun r hr => ⟨(g2 r hr).1, (g2 r hr).2.1⟩, fun _ => ⟨g1, g2⟩⟩
    · exact ⟨fun _ => (0, 0, 0), fun r _ => ⟨Nat.zero_le _, Nat.zero_le _⟩, fun z => absurd z cf⟩
  obtain ⟨ru, hru, hRU⟩ := key
  obtain ⟨x, y, C3, R3, np3, f3, e1, e2, e3, e4, e5, e6⟩ := (E_ok (B := B) (e := e) (N := N) (T := T) (t := t) hru) (fun _ => False) np 0 f2 C2 R2 (Nat.le_refl _) (Nat.le_refl _) t8
  obtain ⟨C4, R4, f4, t11, t12, t13, t14, t15⟩ := take_ok e4 (K := 59) (km := 159) (by decide) (by decide) (by decide) (by decide)
  have S2 : St T t np 0 C R C2 R2 := t4.trans t9 (Nat.le_refl _) (Nat.le_refl _)
  have S3 : St T t np 0 C R C3 R3 := S2.trans e5 (Nat.le_refl _) (Nat.le_refl _)
  have S4 : St T t np 0 C R C4 R4 := S3.trans t14 e3 (Nat.le_refl _)
  obtain ⟨q, q1, q2, q3⟩ := hP.2.2.2.2.2.2.2.2.2.2.2.2.2.2.2
  have hq2 : q < 1602 := by have := hT.2.2.2.2.2.2.2.2.1.2.1; omega
  obtain ⟨a1, a2, a3, a4, a5⟩ := qA hq2
  have ec : ∀ k31 i, f_X4_parse_127 k31 607 i v C = if (jI C4 26 607) = 0 then (f_X8_addRule T v x C4).bind (fun S15 => k31 607 (i + 1) S15) else k31 607 (i + 1) C4 := fun k31 i => by
    unfold f_X4_parse_127 f_X4_parse_168
    rw [if_pos k_607, t1, obt, t6, obt, e1, jbt, t11, obt, t13.pt.2.2.2.2.2.1, obt, if_pos hT.2.2.1]
    simp only [jlt]
  have er : ∀ k29, f_X12_readText_132 k29 2398 (nI t) R = if (jI R4 101 2398) = 0 then (jR R4 111 2398).bind (fun r16 => (jR R4 110 2398).bind (fun r18 => if jA r18 13 (nI t) = true then if jA r16 14 (((24 : Int32) * (nI t)) + (jAI R4 r18 (nI t).toNatClampNeg)) = true then jlet (jrL R4 r16 (vp_updL (jAL R4 r16) (((24 : Int32) * (nI t)) + (jAI R4 r18 (nI t).toNatClampNeg)).toNatClampNeg (jAL R 2406 q))) (fun S22 => (jR S22 112 2398).bind (fun r23 => (jR S22 110 2398).bind (fun r25 => if jA r25 13 (nI t) = true then if jA r23 13 (((24 : Int32) * (nI t)) + (jAI S22 r25 (nI t).toNatClampNeg)) = true then jlet (jrI S22 r23 (upd (jAI S22 r23) (((24 : Int32) * (nI t)) + (jAI S22 r25 (nI t).toNatClampNeg)).toNatClampNeg y)) (fun S29 => (jR S29 110 2398).bind (fun r30 => if jA r30 13 (nI t) = true then if jA r30 13 (nI t) = true then jlet (jrI S29 r30 (upd (jAI S29 r30) (nI t).toNatClampNeg ((jAI S29 r30 (nI t).toNatClampNeg) + (1 : Int32)))) (fun S34 => k29 2398 (nI t) S34) else none else none)) else none else none))) else none else none)) else k29 2398 (nI t) R4 := fun k29 => by
    unfold f_X12_readText_132 f_X12_readText_221
    rw [if_pos k_2398, ly_97 hT.2.1, obt, q2, if_pos a3, a5, jlt, t2, obt, t7, obt, e2, jbt, t12, obt]
  by_cases cf : f4 = 0
  · have f30 := t15 cf
    have f20 := (e6 f30).1
    have f10 := t10 f20
    have f00 := t5 f10
    subst cf
    have hnr' := hnr f00
    subst f00
    have hnp := e4.2.1
    obtain ⟨-, i, i1, i2, i3, i4, i5⟩ := e6 f30
    subst i1
    subst i2
    have eN : jAL R 2406 q = v := by
      obtain ⟨r, r1, r2, r3, r4, r5, r6, r7, r8, r9, r10, r11⟩ := hP.tk
      have hqq : q = r := by
        have z := q2.symm.trans r3
        rw [i_eq, nI_toInt (by omega), nI_toInt (by omega)] at z
        omega
      subst hqq
      have k2 : (tkv B e (tps B e q)).1 = 2 := by rw [← r4.2.1]; exact take_K hP t1 t3 f10
      rw [hv rfl, r4.2.2.2.1 (.inl k2), r5.2.1 (.inl k2)]
    have k15 : jAI R4 2415 t = nI nr := t13.2.2.2.2.2.2.1
    have c15 : (nI t).toNatClampNeg = t := nJ_cl (by omega)
    have a15 : jA 2415 13 (nI t) = true := jA_n k_2415 (by rw [ln_2415]; omega) (by omega)
    have a16 : jA 2416 14 (nI (24 * t + nr)) = true := jA_n k_2416 (by rw [ln_2416]; omega) (by omega)
    have a17 : jA 2417 13 (nI (24 * t + nr)) = true := jA_n k_2417 (by rw [ln_2417]; omega) (by omega)
    have c24 : (nI (24 * t + nr)).toNatClampNeg = 24 * t + nr := nJ_cl (by omega)
    have h24 : ((24 : Int32) * nI t) + nI nr = nI (24 * t + nr) := nJ_24 hT33 (by omega)
    have hR4 := t13.pt.2.1
    refine ⟨ruC T nr v (nI i) C4, ruR t nr v (nI (301 * t + i)) R4, np3, nr + 1, 0, fun k31 i' => ?_, fun k29 => ?_, ⟨t13.ru hnr' v _ _, ?_, ?_, ?_, ?_, fun _ => ⟨?_, fun r => if r = nr then (np3, np, np3) else ru r, fun r hr => ?_⟩⟩, fun _ => ⟨rfl, hnr'⟩⟩
    · rw [ec, t13.fr0.1, if_pos rfl, add_c t13.pt.1 hT.2.2.1 t13.2.2.2.2.2.1 hnr', obt]
    · rw [er, t13.fr0.2, if_pos rfl, ly_111 hR4, obt, ly_110 hR4, obt, if_pos a15, c15, k15, h24, if_pos a16, jlt, eN, c24]
      simp only [m_R_rL, m_AI_rL, m_R_rI, m_AI_rI, ly_112 hR4, ly_110 hR4, k15, h24, a15, a17, c15, c24, nJ_1 (show nr + 1 < 2147483648 by omega), obt, jlt, if_true, Nat.reduceEqDiff, if_false]
      rfl
    · exact (hs2.trans (S4.1.mono (fun _ _ _ => .inl))).trans ((((Fr.refl).rL (by unfold pXC pPC; omega)).rI (by unfold pXC pPC; omega)).sI (by unfold pXC pPC; omega))
    · exact (hs3.trans (S4.2.1.mono (fun _ _ _ => .inl))).trans ((((Fr.refl).rL (by unfold pXR; omega)).rI (by unfold pXR; omega)).rI (by unfold pXR; omega))
    · refine (hs4.trans (S4.ox hP.2.1 hT33)).trans (fun s h1 h2 => ?_)
      unfold ruR sX
      simp only [m_I_sI, m_L_sI, m_R_sI, m_AI_sI, m_AL_sI, m_AD_sI, m_AR_sI, m_n_sI, m_I_sL, m_L_sL, m_R_sL, m_AI_sL, m_AL_sL, m_AD_sL, m_AR_sL, m_n_sL, m_I_sR, m_L_sR, m_R_sR, m_AI_sR, m_AL_sR, m_AD_sR, m_AR_sR, m_n_sR, m_I_rI, m_L_rI, m_R_rI, m_AI_rI, m_AL_rI, m_AD_rI, m_AR_rI, m_n_rI, m_I_rL, m_L_rL, m_R_rL, m_AI_rL, m_AL_rL, m_AD_rL, m_AR_rL, m_n_rL, m_I_rD, m_L_rD, m_R_rD, m_AI_rD, m_AL_rD, m_AD_rD, m_AR_rD, m_n_rD, m_I_rR, m_L_rR, m_R_rR, m_AI_rR, m_AL_rR, m_AD_rR, m_AR_rR, m_n_rR, upd_if, updL_if, if_neg h2, true_and, and_true, and_false, false_and, and_self, if_true, if_false, ite_self, Nat.reduceEqDiff, reduceIte, obt, jlt, jbt, jbd_ite, bind_ite]
      exact ⟨fun _ _ => trivial, fun r hr => ⟨if_neg (by omega), if_neg (by omega)⟩⟩
    · obtain ⟨m1, m2, -⟩ := t_45 hT.2.2.1
      unfold ruC
      simp only [m_I_sI, m_L_sI, m_R_sI, m_AI_sI, m_AL_sI, m_AD_sI, m_AR_sI, m_n_sI, m_I_sL, m_L_sL, m_R_sL, m_AI_sL, m_AL_sL, m_AD_sL, m_AR_sL, m_n_sL, m_I_sR, m_L_sR, m_R_sR, m_AI_sR, m_AL_sR, m_AD_sR, m_AR_sR, m_n_sR, m_I_rI, m_L_rI, m_R_rI, m_AI_rI, m_AL_rI, m_AD_rI, m_AR_rI, m_n_rI, m_I_rL, m_L_rL, m_R_rL, m_AI_rL, m_AL_rL, m_AD_rL, m_AR_rL, m_n_rL, m_I_rD, m_L_rD, m_R_rD, m_AI_rD, m_AL_rD, m_AD_rD, m_AR_rD, m_n_rD, m_I_rR, m_L_rR, m_R_rR, m_AI_rR, m_AL_rR, m_AD_rR, m_AR_rR, m_n_rR, true_and, and_true, and_false, false_and, and_self, if_true, if_false, ite_self, Nat.reduceEqDiff, reduceIte, obt, jlt, jbt, jbd_ite, bind_ite]
      rw [S4.1.i (by unfold pPC; omega)]
      exact hs5
    · -- the parts
      obtain ⟨g1, g2⟩ := hRU rfl
      have F4 : Fin' T t 0 np C4 R4 := g1.o S4 (Nat.le_refl _)
      have F5 : Fin' T t np np3 C4 R4 := i4.o t14 (Nat.le_refl _)
      intro k b1 b2
      have : rK C4 T R4 t k := if c : k < np then F4 k b1 c else F5 k (by omega) b2
      unfold rK ruC ruR at *
      simp only [m_I_sI, m_L_sI, m_R_sI, m_AI_sI, m_AL_sI, m_AD_sI, m_AR_sI, m_n_sI, m_I_sL, m_L_sL, m_R_sL, m_AI_sL, m_AL_sL, m_AD_sL, m_AR_sL, m_n_sL, m_I_sR, m_L_sR, m_R_sR, m_AI_sR, m_AL_sR, m_AD_sR, m_AR_sR, m_n_sR, m_I_rI, m_L_rI, m_R_rI, m_AI_rI, m_AL_rI, m_AD_rI, m_AR_rI, m_n_rI, m_I_rL, m_L_rL, m_R_rL, m_AI_rL, m_AL_rL, m_AD_rL, m_AR_rL, m_n_rL, m_I_rD, m_L_rD, m_R_rD, m_AI_rD, m_AL_rD, m_AD_rD, m_AR_rD, m_n_rD, m_I_rR, m_L_rR, m_R_rR, m_AI_rR, m_AL_rR, m_AD_rR, m_AR_rR, m_n_rR, true_and, and_true, and_false, false_and, and_self, if_true, if_false, ite_self, Nat.reduceEqDiff, reduceIte, obt, jlt, jbt, jbd_ite, bind_ite]
      simp only [if_neg (show ¬ T = T + 4 by omega), if_neg (show ¬ T = T + 2 by omega)]
      exact this
    · obtain ⟨g1, g2⟩ := hRU rfl
      have G4 : RU T t np nr ru C4 R4 := g2.o S4 hT.2.2.1
      have hC1 : ∀ k, jAI (ruC T nr v (nI i) C4) (T + 1) k = jAI C4 (T + 1) k := fun k => by unfold ruC; simp only [m_I_sI, m_L_sI, m_R_sI, m_AI_sI, m_AL_sI, m_AD_sI, m_AR_sI, m_n_sI, m_I_sL, m_L_sL, m_R_sL, m_AI_sL, m_AL_sL, m_AD_sL, m_AR_sL, m_n_sL, m_I_sR, m_L_sR, m_R_sR, m_AI_sR, m_AL_sR, m_AD_sR, m_AR_sR, m_n_sR, m_I_rI, m_L_rI, m_R_rI, m_AI_rI, m_AL_rI, m_AD_rI, m_AR_rI, m_n_rI, m_I_rL, m_L_rL, m_R_rL, m_AI_rL, m_AL_rL, m_AD_rL, m_AR_rL, m_n_rL, m_I_rD, m_L_rD, m_R_rD, m_AI_rD, m_AL_rD, m_AD_rD, m_AR_rD, m_n_rD, m_I_rR, m_L_rR, m_R_rR, m_AI_rR, m_AL_rR, m_AD_rR, m_AR_rR, m_n_rR, true_and, and_true, and_false, false_and, and_self, if_true, if_false, ite_self, Nat.reduceEqDiff, reduceIte, obt, jlt, jbt, jbd_ite, bind_ite]; simp only [if_neg (show ¬ T = T + 4 by omega), if_neg (show ¬ T = T + 2 by omega)]
      have hC2 : ∀ k, jAL (ruC T nr v (nI i) C4) (T + 2) k = jAL C4 (T + 2) k := fun k => by unfold ruC; simp only [m_I_sI, m_L_sI, m_R_sI, m_AI_sI, m_AL_sI, m_AD_sI, m_AR_sI, m_n_sI, m_I_sL, m_L_sL, m_R_sL, m_AI_sL, m_AL_sL, m_AD_sL, m_AR_sL, m_n_sL, m_I_sR, m_L_sR, m_R_sR, m_AI_sR, m_AL_sR, m_AD_sR, m_AR_sR, m_n_sR, m_I_rI, m_L_rI, m_R_rI, m_AI_rI, m_AL_rI, m_AD_rI, m_AR_rI, m_n_rI, m_I_rL, m_L_rL, m_R_rL, m_AI_rL, m_AL_rL, m_AD_rL, m_AR_rL, m_n_rL, m_I_rD, m_L_rD, m_R_rD, m_AI_rD, m_AL_rD, m_AD_rD, m_AR_rD, m_n_rD, m_I_rR, m_L_rR, m_R_rR, m_AI_rR, m_AL_rR, m_AD_rR, m_AR_rR, m_n_rR, true_and, and_true, and_false, false_and, and_self, if_true, if_false, ite_self, Nat.reduceEqDiff, reduceIte, obt, jlt, jbt, jbd_ite, bind_ite]; simp only [if_neg (show ¬ T = T + 2 by omega)]
      have hC3 : ∀ k, jAI (ruC T nr v (nI i) C4) (T + 3) k = jAI C4 (T + 3) k := fun k => by unfold ruC; simp only [m_I_sI, m_L_sI, m_R_sI, m_AI_sI, m_AL_sI, m_AD_sI, m_AR_sI, m_n_sI, m_I_sL, m_L_sL, m_R_sL, m_AI_sL, m_AL_sL, m_AD_sL, m_AR_sL, m_n_sL, m_I_sR, m_L_sR, m_R_sR, m_AI_sR, m_AL_sR, m_AD_sR, m_AR_sR, m_n_sR, m_I_rI, m_L_rI, m_R_rI, m_AI_rI, m_AL_rI, m_AD_rI, m_AR_rI, m_n_rI, m_I_rL, m_L_rL, m_R_rL, m_AI_rL, m_AL_rL, m_AD_rL, m_AR_rL, m_n_rL, m_I_rD, m_L_rD, m_R_rD, m_AI_rD, m_AL_rD, m_AD_rD, m_AR_rD, m_n_rD, m_I_rR, m_L_rR, m_R_rR, m_AI_rR, m_AL_rR, m_AD_rR, m_AR_rR, m_n_rR, true_and, and_true, and_false, false_and, and_self, if_true, if_false, ite_self, Nat.reduceEqDiff, reduceIte, obt, jlt, jbt, jbd_ite, bind_ite]; simp only [if_neg (show ¬ T = T + 4 by omega), if_neg (show ¬ T = T + 2 by omega)]
      have hru' : ∀ r, r < nr → (fun r => if r = nr then (np3, np, np3) else ru r) r = ru r := fun r hr => if_neg (by omega)
      have r5C : jAI (ruC T nr v (nI i) C4) (T + 5) r = if r = nr then nI i else jAI C4 (T + 5) r := by unfold ruC; simp only [m_I_sI, m_L_sI, m_R_sI, m_AI_sI, m_AL_sI, m_AD_sI, m_AR_sI, m_n_sI, m_I_sL, m_L_sL, m_R_sL, m_AI_sL, m_AL_sL, m_AD_sL, m_AR_sL, m_n_sL, m_I_sR, m_L_sR, m_R_sR, m_AI_sR, m_AL_sR, m_AD_sR, m_AR_sR, m_n_sR, m_I_rI, m_L_rI, m_R_rI, m_AI_rI, m_AL_rI, m_AD_rI, m_AR_rI, m_n_rI, m_I_rL, m_L_rL, m_R_rL, m_AI_rL, m_AL_rL, m_AD_rL, m_AR_rL, m_n_rL, m_I_rD, m_L_rD, m_R_rD, m_AI_rD, m_AL_rD, m_AD_rD, m_AR_rD, m_n_rD, m_I_rR, m_L_rR, m_R_rR, m_AI_rR, m_AL_rR, m_AD_rR, m_AR_rR, m_n_rR, upd_if, true_and, and_true, and_false, false_and, and_self, if_true, if_false, ite_self, Nat.reduceEqDiff, reduceIte, obt, jlt, jbt, jbd_ite, bind_ite]
      have r7R : jAI (ruR t nr v (nI (301 * t + i)) R4) 2417 (24 * t + r) = if r = nr then nI (301 * t + i) else jAI R4 2417 (24 * t + r) := by
        unfold ruR; simp only [m_I_sI, m_L_sI, m_R_sI, m_AI_sI, m_AL_sI, m_AD_sI, m_AR_sI, m_n_sI, m_I_sL, m_L_sL, m_R_sL, m_AI_sL, m_AL_sL, m_AD_sL, m_AR_sL, m_n_sL, m_I_sR, m_L_sR, m_R_sR, m_AI_sR, m_AL_sR, m_AD_sR, m_AR_sR, m_n_sR, m_I_rI, m_L_rI, m_R_rI, m_AI_rI, m_AL_rI, m_AD_rI, m_AR_rI, m_n_rI, m_I_rL, m_L_rL, m_R_rL, m_AI_rL, m_AL_rL, m_AD_rL, m_AR_rL, m_n_rL, m_I_rD, m_L_rD, m_R_rD, m_AI_rD, m_AL_rD, m_AD_rD, m_AR_rD, m_n_rD, m_I_rR, m_L_rR, m_R_rR, m_AI_rR, m_AL_rR, m_AD_rR, m_AR_rR, m_n_rR, upd_if, true_and, and_true, and_false, false_and, and_self, if_true, if_false, ite_self, Nat.reduceEqDiff, reduceIte, obt, jlt, jbt, jbd_ite, bind_ite]
        by_cases c : r = nr
        · rw [if_pos c, if_pos (by omega)]
        · rw [if_neg c, if_neg (by omega)]
      by_cases c : r = nr
      · subst c
        simp only [if_true] at r5C r7R ⊢
        refine ⟨Nat.le_refl _, Nat.le_refl _, i, r5C, r7R, ?_⟩
        have T4 : tT C4 T ru r np (np3 - np + np) (fun _ => False) np np3 i := i5.o t14.2.2.1 (Nat.le_refl _) (Nat.le_refl _) (Nat.le_refl _) (Nat.le_refl _)
        exact tOK_m (Nat.le_succ _) hru' _ _ _ np np3 i np3 np np3 T4 (by omega) (fun _ z => z) (Nat.le_refl _) (Nat.le_refl _) (fun k _ _ => ⟨hC1 k, hC2 k, fun j _ => hC3 _⟩)
      · obtain ⟨b1, b2, k, b3, b4, b5⟩ := G4 r (by omega)
        simp only [if_neg c] at r5C r7R ⊢
        refine ⟨by omega, by omega, k, r5C.trans b3, r7R.trans b4, ?_⟩
        exact tOK_m (Nat.le_succ _) hru' _ _ _ _ _ _ _ _ _ b5 (Nat.le_refl _) (fun _ z => z) (Nat.le_refl _) (Nat.le_refl _) (fun k _ _ => ⟨hC1 k, hC2 k, fun j _ => hC3 _⟩)
  · obtain ⟨n1, n2⟩ := nfl t13 cf
    have n3 : ¬ jI R4 101 2398 = 0 := fun z => n2 (by rw [z]; decide)
    refine ⟨C4, R4, np3, nr, f4, fun k31 i => by rw [ec, if_neg n1], fun k29 => by rw [er, if_neg n3], h.o t13 S4 (fun z => absurd z cf), fun z => absurd z cf⟩

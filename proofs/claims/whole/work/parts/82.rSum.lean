/-! PURE: the parser: a sum -/
theorem take_K {B : Nat → Int32} {e N T t : Nat} {A : Nat → Prop} {np nr cn : Nat} {fl' : Int32} {C R C' R' : jM} (h : PS B e N T t A np nr cn 0 C R) {K : Int32} (hc : f_X4_take 607 K C = some C') (h' : PS B e N T t A np nr cn fl' C' R') (hf : fl' = 0) : jI C 40 608 = K := by
  by_cases c : jI C 40 608 = K
  · exact c
  · exfalso
    have hid : ∀ o : Option jM, (o.bind fun S1 => some S1) = o := fun o => by cases o <;> rfl
    obtain ⟨C2, R2, fl2, w1, w2, w3, w4, w5⟩ := wrong_ok h
    have ec : f_X4_take 607 K C = f_X4_refuseToken 607 C := by
      unfold f_X4_take
      simp only [k_607, h.fr0.1, ly_24 h.pt.1, k_608, c, hid, obt, if_true, if_false]
    rw [ec, w1] at hc
    injection hc with hc
    subst hc
    exact w3 (w4.fr0.1.symm.trans (h'.fr0.1.trans hf))
/-- a sum more is around -/
def upC (cn p : Nat) (v : Int64) (C : jM) : jM := jsI (jrI (jrL C 616 (vp_updL (jAL C 616) cn v)) 617 (upd (jAI C 617) cn (nI p))) 30 607 (nI (cn + 1))
def upR (t cn p : Nat) (v : Int64) (R : jM) : jM := jsI (jrI (jrL R 2418 (vp_updL (jAL R 2418) cn v)) 2419 (upd (jAI R 2419) cn (nI (301 * t + p)))) 117 2398 (nI (cn + 1))
theorem PS.up {B : Nat → Int32} {e N T t : Nat} {A : Nat → Prop} {np nr cn : Nat} {C R : jM} (h : PS B e N T t A np nr cn 0 C R) (hcn : cn < 20) {p : Nat} (hp : p < 300) (v : Int64) : PS B e N T t (fun s => A s ∨ s = p) np nr (cn + 1) 0 (upC cn p v C) (upR t cn p v R) := by
  obtain ⟨hT, a1, a2, a3, a4, a5, a6, a7, a8, a9, a10, a11, a12, a13, a14, q, b1, b2, b3⟩ := h
  obtain ⟨⟨n1, n2, n3⟩, n4, n5, n6⟩ := t_616 hT.2.2.1
  have hFc : Fr (pPC T) C (upC cn p v C) := (((Fr.refl).rL (by unfold pPC; omega)).rI (by unfold pPC; omega)).sI (by unfold pPC; omega)
  have hFr : Fr pPR R (upR t cn p v R) := (((Fr.refl).rL (by unfold pPR; omega)).rI (by unfold pPR; omega)).sI (by unfold pPR; omega)
  have n607 : T ≠ 607 := fun z => by have := hT.2.2.1; rw [z, k_607] at this; omega
  have kt := kd_text hT.2.2.1
  have m4 : ¬ T + 4 = 616 := fun z => by have l := kt.2.2.2.1.2; rw [z, ln_616] at l; omega
  refine ⟨hT.f hFc hFr, a1, a2, by omega, ?_, ?_, ?_, ?_, ?_, ?_, fun i hi => ?_, ?_, ?_, a13, fun z => absurd rfl z, q, b1, ?_, fun _ => ?_⟩
  · unfold upC; simp only [m_I_sI, m_L_sI, m_R_sI, m_AI_sI, m_AL_sI, m_AD_sI, m_AR_sI, m_n_sI, m_I_sL, m_L_sL, m_R_sL, m_AI_sL, m_AL_sL, m_AD_sL, m_AR_sL, m_n_sL, m_I_sR, m_L_sR, m_R_sR, m_AI_sR, m_AL_sR, m_AD_sR, m_AR_sR, m_n_sR, m_I_rI, m_L_rI, m_R_rI, m_AI_rI, m_AL_rI, m_AD_rI, m_AR_rI, m_n_rI, m_I_rL, m_L_rL, m_R_rL, m_AI_rL, m_AL_rL, m_AD_rL, m_AR_rL, m_n_rL, m_I_rD, m_L_rD, m_R_rD, m_AI_rD, m_AL_rD, m_AD_rD, m_AR_rD, m_n_rD, m_I_rR, m_L_rR, m_R_rR, m_AI_rR, m_AL_rR, m_AD_rR, m_AR_rR, m_n_rR, true_and, and_true, and_false, false_and, and_self, if_true, if_false, ite_self, Nat.reduceEqDiff, reduceIte, obt, jlt, jbt, jbd_ite, bind_ite]; exact a4
  · unfold upC; simp only [m_I_sI, m_L_sI, m_R_sI, m_AI_sI, m_AL_sI, m_AD_sI, m_AR_sI, m_n_sI, m_I_sL, m_L_sL, m_R_sL, m_AI_sL, m_AL_sL, m_AD_sL, m_AR_sL, m_n_sL, m_I_sR, m_L_sR, m_R_sR, m_AI_sR, m_AL_sR, m_AD_sR, m_AR_sR, m_n_sR, m_I_rI, m_L_rI, m_R_rI, m_AI_rI, m_AL_rI, m_AD_rI, m_AR_rI, m_n_rI, m_I_rL, m_L_rL, m_R_rL, m_AI_rL, m_AL_rL, m_AD_rL, m_AR_rL, m_n_rL, m_I_rD, m_L_rD, m_R_rD, m_AI_rD, m_AL_rD, m_AD_rD, m_AR_rD, m_n_rD, m_I_rR, m_L_rR, m_R_rR, m_AI_rR, m_AL_rR, m_AD_rR, m_AR_rR, m_n_rR, true_and, and_true, and_false, false_and, and_self, if_true, if_false, ite_self, Nat.reduceEqDiff, reduceIte, obt, jlt, jbt, jbd_ite, bind_ite]; exact a5
  · unfold upR; simp only [m_I_sI, m_L_sI, m_R_sI, m_AI_sI, m_AL_sI, m_AD_sI, m_AR_sI, m_n_sI, m_I_sL, m_L_sL, m_R_sL, m_AI_sL, m_AL_sL, m_AD_sL, m_AR_sL, m_n_sL, m_I_sR, m_L_sR, m_R_sR, m_AI_sR, m_AL_sR, m_AD_sR, m_AR_sR, m_n_sR, m_I_rI, m_L_rI, m_R_rI, m_AI_rI, m_AL_rI, m_AD_rI, m_AR_rI, m_n_rI, m_I_rL, m_L_rL, m_R_rL, m_AI_rL, m_AL_rL, m_AD_rL, m_AR_rL, m_n_rL, m_I_rD, m_L_rD, m_R_rD, m_AI_rD, m_AL_rD, m_AD_rD, m_AR_rD, m_n_rD, m_I_rR, m_L_rR, m_R_rR, m_AI_rR, m_AL_rR, m_AD_rR, m_AR_rR, m_n_rR, true_and, and_true, and_false, false_and, and_self, if_true, if_false, ite_self, Nat.reduceEqDiff, reduceIte, obt, jlt, jbt, jbd_ite, bind_ite]; exact a6
  · unfold upC; simp only [m_I_sI, m_L_sI, m_R_sI, m_AI_sI, m_AL_sI, m_AD_sI, m_AR_sI, m_n_sI, m_I_sL, m_L_sL, m_R_sL, m_AI_sL, m_AL_sL, m_AD_sL, m_AR_sL, m_n_sL, m_I_sR, m_L_sR, m_R_sR, m_AI_sR, m_AL_sR, m_AD_sR, m_AR_sR, m_n_sR, m_I_rI, m_L_rI, m_R_rI, m_AI_rI, m_AL_rI, m_AD_rI, m_AR_rI, m_n_rI, m_I_rL, m_L_rL, m_R_rL, m_AI_rL, m_AL_rL, m_AD_rL, m_AR_rL, m_n_rL, m_I_rD, m_L_rD, m_R_rD, m_AI_rD, m_AL_rD, m_AD_rD, m_AR_rD, m_n_rD, m_I_rR, m_L_rR, m_R_rR, m_AI_rR, m_AL_rR, m_AD_rR, m_AR_rR, m_n_rR, true_and, and_true, and_false, false_and, and_self, if_true, if_false, ite_self, Nat.reduceEqDiff, reduceIte, obt, jlt, jbt, jbd_ite, bind_ite]
  · unfold upR; simp only [m_I_sI, m_L_sI, m_R_sI, m_AI_sI, m_AL_sI, m_AD_sI, m_AR_sI, m_n_sI, m_I_sL, m_L_sL, m_R_sL, m_AI_sL, m_AL_sL, m_AD_sL, m_AR_sL, m_n_sL, m_I_sR, m_L_sR, m_R_sR, m_AI_sR, m_AL_sR, m_AD_sR, m_AR_sR, m_n_sR, m_I_rI, m_L_rI, m_R_rI, m_AI_rI, m_AL_rI, m_AD_rI, m_AR_rI, m_n_rI, m_I_rL, m_L_rL, m_R_rL, m_AI_rL, m_AL_rL, m_AD_rL, m_AR_rL, m_n_rL, m_I_rD, m_L_rD, m_R_rD, m_AI_rD, m_AL_rD, m_AD_rD, m_AR_rD, m_n_rD, m_I_rR, m_L_rR, m_R_rR, m_AI_rR, m_AL_rR, m_AD_rR, m_AR_rR, m_n_rR, true_and, and_true, and_false, false_and, and_self, if_true, if_false, ite_self, Nat.reduceEqDiff, reduceIte, obt, jlt, jbt, jbd_ite, bind_ite]
  · unfold upC upR; simp only [m_I_sI, m_L_sI, m_R_sI, m_AI_sI, m_AL_sI, m_AD_sI, m_AR_sI, m_n_sI, m_I_sL, m_L_sL, m_R_sL, m_AI_sL, m_AL_sL, m_AD_sL, m_AR_sL, m_n_sL, m_I_sR, m_L_sR, m_R_sR, m_AI_sR, m_AL_sR, m_AD_sR, m_AR_sR, m_n_sR, m_I_rI, m_L_rI, m_R_rI, m_AI_rI, m_AL_rI, m_AD_rI, m_AR_rI, m_n_rI, m_I_rL, m_L_rL, m_R_rL, m_AI_rL, m_AL_rL, m_AD_rL, m_AR_rL, m_n_rL, m_I_rD, m_L_rD, m_R_rD, m_AI_rD, m_AL_rD, m_AD_rD, m_AR_rD, m_n_rD, m_I_rR, m_L_rR, m_R_rR, m_AI_rR, m_AL_rR, m_AD_rR, m_AR_rR, m_n_rR, if_neg (show ¬ T = 612 by omega), true_and, and_true, and_false, false_and, and_self, if_true, if_false, ite_self, Nat.reduceEqDiff, reduceIte, obt, jlt, jbt, jbd_ite, bind_ite]; exact a9
  · unfold upC upR
    simp only [m_I_sI, m_L_sI, m_R_sI, m_AI_sI, m_AL_sI, m_AD_sI, m_AR_sI, m_n_sI, m_I_sL, m_L_sL, m_R_sL, m_AI_sL, m_AL_sL, m_AD_sL, m_AR_sL, m_n_sL, m_I_sR, m_L_sR, m_R_sR, m_AI_sR, m_AL_sR, m_AD_sR, m_AR_sR, m_n_sR, m_I_rI, m_L_rI, m_R_rI, m_AI_rI, m_AL_rI, m_AD_rI, m_AR_rI, m_n_rI, m_I_rL, m_L_rL, m_R_rL, m_AI_rL, m_AL_rL, m_AD_rL, m_AR_rL, m_n_rL, m_I_rD, m_L_rD, m_R_rD, m_AI_rD, m_AL_rD, m_AD_rD, m_AR_rD, m_n_rD, m_I_rR, m_L_rR, m_R_rR, m_AI_rR, m_AL_rR, m_AD_rR, m_AR_rR, m_n_rR, upd_if, updL_if, true_and, and_true, and_false, false_and, and_self, if_true, if_false, ite_self, Nat.reduceEqDiff, reduceIte, obt, jlt, jbt, jbd_ite, bind_ite]
    by_cases c : i = cn
    · simp only [c, if_true, true_and]
      exact ⟨p, .inr rfl, hp, rfl, rfl⟩
    · obtain ⟨y1, s, y2, y3, y4, y5⟩ := a10 i (by omega)
      simp only [c, if_false]
      exact ⟨y1, s, .inl y2, y3, y4, y5⟩
  · unfold upC; simp only [m_I_sI, m_L_sI, m_R_sI, m_AI_sI, m_AL_sI, m_AD_sI, m_AR_sI, m_n_sI, m_I_sL, m_L_sL, m_R_sL, m_AI_sL, m_AL_sL, m_AD_sL, m_AR_sL, m_n_sL, m_I_sR, m_L_sR, m_R_sR, m_AI_sR, m_AL_sR, m_AD_sR, m_AR_sR, m_n_sR, m_I_rI, m_L_rI, m_R_rI, m_AI_rI, m_AL_rI, m_AD_rI, m_AR_rI, m_n_rI, m_I_rL, m_L_rL, m_R_rL, m_AI_rL, m_AL_rL, m_AD_rL, m_AR_rL, m_n_rL, m_I_rD, m_L_rD, m_R_rD, m_AI_rD, m_AL_rD, m_AD_rD, m_AR_rD, m_n_rD, m_I_rR, m_L_rR, m_R_rR, m_AI_rR, m_AL_rR, m_AD_rR, m_AR_rR, m_n_rR, true_and, and_true, and_false, false_and, and_self, if_true, if_false, ite_self, Nat.reduceEqDiff, reduceIte, obt, jlt, jbt, jbd_ite, bind_ite]; exact a11
  · unfold upR; simp only [m_I_sI, m_L_sI, m_R_sI, m_AI_sI, m_AL_sI, m_AD_sI, m_AR_sI, m_n_sI, m_I_sL, m_L_sL, m_R_sL, m_AI_sL, m_AL_sL, m_AD_sL, m_AR_sL, m_n_sL, m_I_sR, m_L_sR, m_R_sR, m_AI_sR, m_AL_sR, m_AD_sR, m_AR_sR, m_n_sR, m_I_rI, m_L_rI, m_R_rI, m_AI_rI, m_AL_rI, m_AD_rI, m_AR_rI, m_n_rI, m_I_rL, m_L_rL, m_R_rL, m_AI_rL, m_AL_rL, m_AD_rL, m_AR_rL, m_n_rL, m_I_rD, m_L_rD, m_R_rD, m_AI_rD, m_AL_rD, m_AD_rD, m_AR_rD, m_n_rD, m_I_rR, m_L_rR, m_R_rR, m_AI_rR, m_AL_rR, m_AD_rR, m_AR_rR, m_n_rR, true_and, and_true, and_false, false_and, and_self, if_true, if_false, ite_self, Nat.reduceEqDiff, reduceIte, obt, jlt, jbt, jbd_ite, bind_ite]; exact a12
  · unfold upR; simp only [m_I_sI, m_L_sI, m_R_sI, m_AI_sI, m_AL_sI, m_AD_sI, m_AR_sI, m_n_sI, m_I_sL, m_L_sL, m_R_sL, m_AI_sL, m_AL_sL, m_AD_sL, m_AR_sL, m_n_sL, m_I_sR, m_L_sR, m_R_sR, m_AI_sR, m_AL_sR, m_AD_sR, m_AR_sR, m_n_sR, m_I_rI, m_L_rI, m_R_rI, m_AI_rI, m_AL_rI, m_AD_rI, m_AR_rI, m_n_rI, m_I_rL, m_L_rL, m_R_rL, m_AI_rL, m_AL_rL, m_AD_rL, m_AR_rL, m_n_rL, m_I_rD, m_L_rD, m_R_rD, m_AI_rD, m_AL_rD, m_AD_rD, m_AR_rD, m_n_rD, m_I_rR, m_L_rR, m_R_rR, m_AI_rR, m_AL_rR, m_AD_rR, m_AR_rR, m_n_rR, true_and, and_true, and_false, false_and, and_self, if_true, if_false, ite_self, Nat.reduceEqDiff, reduceIte, obt, jlt, jbt, jbd_ite, bind_ite]; exact b2
  · obtain ⟨c1, c2, c3⟩ := b3 rfl
    refine ⟨?_, ?_, ?_⟩
    · unfold tokAt upC at *
      simp only [m_I_sI, m_L_sI, m_R_sI, m_AI_sI, m_AL_sI, m_AD_sI, m_AR_sI, m_n_sI, m_I_sL, m_L_sL, m_R_sL, m_AI_sL, m_AL_sL, m_AD_sL, m_AR_sL, m_n_sL, m_I_sR, m_L_sR, m_R_sR, m_AI_sR, m_AL_sR, m_AD_sR, m_AR_sR, m_n_sR, m_I_rI, m_L_rI, m_R_rI, m_AI_rI, m_AL_rI, m_AD_rI, m_AR_rI, m_n_rI, m_I_rL, m_L_rL, m_R_rL, m_AI_rL, m_AL_rL, m_AD_rL, m_AR_rL, m_n_rL, m_I_rD, m_L_rD, m_R_rD, m_AI_rD, m_AL_rD, m_AD_rD, m_AR_rD, m_n_rD, m_I_rR, m_L_rR, m_R_rR, m_AI_rR, m_AL_rR, m_AD_rR, m_AR_rR, m_n_rR, true_and, and_true, and_false, false_and, and_self, if_true, if_false, ite_self, Nat.reduceEqDiff, reduceIte, obt, jlt, jbt, jbd_ite, bind_ite]
      exact c1
    · unfold upR; simp only [m_I_sI, m_L_sI, m_R_sI, m_AI_sI, m_AL_sI, m_AD_sI, m_AR_sI, m_n_sI, m_I_sL, m_L_sL, m_R_sL, m_AI_sL, m_AL_sL, m_AD_sL, m_AR_sL, m_n_sL, m_I_sR, m_L_sR, m_R_sR, m_AI_sR, m_AL_sR, m_AD_sR, m_AR_sR, m_n_sR, m_I_rI, m_L_rI, m_R_rI, m_AI_rI, m_AL_rI, m_AD_rI, m_AR_rI, m_n_rI, m_I_rL, m_L_rL, m_R_rL, m_AI_rL, m_AL_rL, m_AD_rL, m_AR_rL, m_n_rL, m_I_rD, m_L_rD, m_R_rD, m_AI_rD, m_AL_rD, m_AD_rD, m_AR_rD, m_n_rD, m_I_rR, m_L_rR, m_R_rR, m_AI_rR, m_AL_rR, m_AD_rR, m_AR_rR, m_n_rR, true_and, and_true, and_false, false_and, and_self, if_true, if_false, ite_self, Nat.reduceEqDiff, reduceIte, obt, jlt, jbt, jbd_ite, bind_ite]; exact c2
    · unfold upR; simp only [m_I_sI, m_L_sI, m_R_sI, m_AI_sI, m_AL_sI, m_AD_sI, m_AR_sI, m_n_sI, m_I_sL, m_L_sL, m_R_sL, m_AI_sL, m_AL_sL, m_AD_sL, m_AR_sL, m_n_sL, m_I_sR, m_L_sR, m_R_sR, m_AI_sR, m_AL_sR, m_AD_sR, m_AR_sR, m_n_sR, m_I_rI, m_L_rI, m_R_rI, m_AI_rI, m_AL_rI, m_AD_rI, m_AR_rI, m_n_rI, m_I_rL, m_L_rL, m_R_rL, m_AI_rL, m_AL_rL, m_AD_rL, m_AR_rL, m_n_rL, m_I_rD, m_L_rD, m_R_rD, m_AI_rD, m_AL_rD, m_AD_rD, m_AR_rD, m_n_rD, m_I_rR, m_L_rR, m_R_rR, m_AI_rR, m_AL_rR, m_AD_rR, m_AR_rR, m_n_rR, true_and, and_true, and_false, false_and, and_self, if_true, if_false, ite_self, Nat.reduceEqDiff, reduceIte, obt, jlt, jbt, jbd_ite, bind_ite]; exact c3
theorem St.up {T t np cn p : Nat} {v : Int64} {C R : jM} (hk : jK T = 6) : St T t np cn C R (upC cn p v C) (upR t cn p v R) := by
  obtain ⟨⟨n1, n2, n3⟩, n4, n5, n6⟩ := t_616 hk
  refine ⟨(((Fr.refl).rL (by unfold pPC; omega)).rI (by unfold pPC; omega)).sI (by unfold pPC; omega), (((Fr.refl).rL (by unfold pPR; omega)).rI (by unfold pPR; omega)).sI (by unfold pPR; omega), fun k _ => ?_, ⟨fun z _ => ?_, fun s _ => ?_⟩, fun i hi => ?_⟩
  · unfold upC
    simp only [m_I_sI, m_L_sI, m_R_sI, m_AI_sI, m_AL_sI, m_AD_sI, m_AR_sI, m_n_sI, m_I_sL, m_L_sL, m_R_sL, m_AI_sL, m_AL_sL, m_AD_sL, m_AR_sL, m_n_sL, m_I_sR, m_L_sR, m_R_sR, m_AI_sR, m_AL_sR, m_AD_sR, m_AR_sR, m_n_sR, m_I_rI, m_L_rI, m_R_rI, m_AI_rI, m_AL_rI, m_AD_rI, m_AR_rI, m_n_rI, m_I_rL, m_L_rL, m_R_rL, m_AI_rL, m_AL_rL, m_AD_rL, m_AR_rL, m_n_rL, m_I_rD, m_L_rD, m_R_rD, m_AI_rD, m_AL_rD, m_AD_rD, m_AR_rD, m_n_rD, m_I_rR, m_L_rR, m_R_rR, m_AI_rR, m_AL_rR, m_AD_rR, m_AR_rR, m_n_rR, true_and, and_true, and_false, false_and, and_self, if_true, if_false, ite_self, Nat.reduceEqDiff, reduceIte, obt, jlt, jbt, jbd_ite, bind_ite]
    rw [if_neg (show ¬ T = 616 by omega), if_neg (show ¬ T = 614 by omega), if_neg (show ¬ T = 614 by omega)]
    exact ⟨rfl, rfl, fun _ _ => rfl⟩
  · unfold upR; simp only [m_I_sI, m_L_sI, m_R_sI, m_AI_sI, m_AL_sI, m_AD_sI, m_AR_sI, m_n_sI, m_I_sL, m_L_sL, m_R_sL, m_AI_sL, m_AL_sL, m_AD_sL, m_AR_sL, m_n_sL, m_I_sR, m_L_sR, m_R_sR, m_AI_sR, m_AL_sR, m_AD_sR, m_AR_sR, m_n_sR, m_I_rI, m_L_rI, m_R_rI, m_AI_rI, m_AL_rI, m_AD_rI, m_AR_rI, m_n_rI, m_I_rL, m_L_rL, m_R_rL, m_AI_rL, m_AL_rL, m_AD_rL, m_AR_rL, m_n_rL, m_I_rD, m_L_rD, m_R_rD, m_AI_rD, m_AL_rD, m_AD_rD, m_AR_rD, m_n_rD, m_I_rR, m_L_rR, m_R_rR, m_AI_rR, m_AL_rR, m_AD_rR, m_AR_rR, m_n_rR, true_and, and_true, and_false, false_and, and_self, if_true, if_false, ite_self, Nat.reduceEqDiff, reduceIte, obt, jlt, jbt, jbd_ite, bind_ite]
  · unfold upR; simp only [m_I_sI, m_L_sI, m_R_sI, m_AI_sI, m_AL_sI, m_AD_sI, m_AR_sI, m_n_sI, m_I_sL, m_L_sL, m_R_sL, m_AI_sL, m_AL_sL, m_AD_sL, m_AR_sL, m_n_sL, m_I_sR, m_L_sR, m_R_sR, m_AI_sR, m_AL_sR, m_AD_sR, m_AR_sR, m_n_sR, m_I_rI, m_L_rI, m_R_rI, m_AI_rI, m_AL_rI, m_AD_rI, m_AR_rI, m_n_rI, m_I_rL, m_L_rL, m_R_rL, m_AI_rL, m_AL_rL, m_AD_rL, m_AR_rL, m_n_rL, m_I_rD, m_L_rD, m_R_rD, m_AI_rD, m_AL_rD, m_AD_rD, m_AR_rD, m_n_rD, m_I_rR, m_L_rR, m_R_rR, m_AI_rR, m_AL_rR, m_AD_rR, m_AR_rR, m_n_rR, true_and, and_true, and_false, false_and, and_self, if_true, if_false, ite_self, Nat.reduceEqDiff, reduceIte, obt, jlt, jbt, jbd_ite, bind_ite]
  · unfold upC upR
    simp only [m_I_sI, m_L_sI, m_R_sI, m_AI_sI, m_AL_sI, m_AD_sI, m_AR_sI, m_n_sI, m_I_sL, m_L_sL, m_R_sL, m_AI_sL, m_AL_sL, m_AD_sL, m_AR_sL, m_n_sL, m_I_sR, m_L_sR, m_R_sR, m_AI_sR, m_AL_sR, m_AD_sR, m_AR_sR, m_n_sR, m_I_rI, m_L_rI, m_R_rI, m_AI_rI, m_AL_rI, m_AD_rI, m_AR_rI, m_n_rI, m_I_rL, m_L_rL, m_R_rL, m_AI_rL, m_AL_rL, m_AD_rL, m_AR_rL, m_n_rL, m_I_rD, m_L_rD, m_R_rD, m_AI_rD, m_AL_rD, m_AD_rD, m_AR_rD, m_n_rD, m_I_rR, m_L_rR, m_R_rR, m_AI_rR, m_AL_rR, m_AD_rR, m_AR_rR, m_n_rR, upd_if, updL_if, if_neg (show ¬ i = cn by omega), true_and, and_true, and_false, false_and, and_self, if_true, if_false, ite_self, Nat.reduceEqDiff, reduceIte, obt, jlt, jbt, jbd_ite, bind_ite]
/-- and is no more -/
theorem PS.dn {B : Nat → Int32} {e N T t : Nat} {A A' : Nat → Prop} {np nr cn : Nat} {fl : Int32} {C R : jM} (h : PS B e N T t A' np nr (cn + 1) fl C R) (h10 : ∀ i, i < cn → jAL C 616 i = jAL R 2418 i ∧ ∃ s, A s ∧ s < 300 ∧ jAI C 617 i = nI s ∧ jAI R 2419 i = nI (301 * t + s)) : PS B e N T t A np nr cn fl (jsI C 30 607 (nI cn)) (jsI R 117 2398 (nI cn)) := by
  obtain ⟨hT, a1, a2, a3, a4, a5, a6, a7, a8, a9, a10, a11, a12, a13, a14, q, b1, b2, b3⟩ := h
  refine ⟨hT.f ((Fr.refl).sI (by unfold pPC; omega)) ((Fr.refl).sI (by unfold pPR; omega)), a1, a2, by omega, ?_, ?_, ?_, ?_, ?_, ?_, h10, ?_, ?_, a13, fun z => ?_, q, b1, ?_, fun z => ?_⟩
  · simp only [m_I_sI, m_L_sI, m_R_sI, m_AI_sI, m_AL_sI, m_AD_sI, m_AR_sI, m_n_sI, m_I_sL, m_L_sL, m_R_sL, m_AI_sL, m_AL_sL, m_AD_sL, m_AR_sL, m_n_sL, m_I_sR, m_L_sR, m_R_sR, m_AI_sR, m_AL_sR, m_AD_sR, m_AR_sR, m_n_sR, m_I_rI, m_L_rI, m_R_rI, m_AI_rI, m_AL_rI, m_AD_rI, m_AR_rI, m_n_rI, m_I_rL, m_L_rL, m_R_rL, m_AI_rL, m_AL_rL, m_AD_rL, m_AR_rL, m_n_rL, m_I_rD, m_L_rD, m_R_rD, m_AI_rD, m_AL_rD, m_AD_rD, m_AR_rD, m_n_rD, m_I_rR, m_L_rR, m_R_rR, m_AI_rR, m_AL_rR, m_AD_rR, m_AR_rR, m_n_rR, true_and, and_true, and_false, false_and, and_self, if_true, if_false, ite_self, Nat.reduceEqDiff, reduceIte, obt, jlt, jbt, jbd_ite, bind_ite]; exact a4
  · simp only [m_I_sI, m_L_sI, m_R_sI, m_AI_sI, m_AL_sI, m_AD_sI, m_AR_sI, m_n_sI, m_I_sL, m_L_sL, m_R_sL, m_AI_sL, m_AL_sL, m_AD_sL, m_AR_sL, m_n_sL, m_I_sR, m_L_sR, m_R_sR, m_AI_sR, m_AL_sR, m_AD_sR, m_AR_sR, m_n_sR, m_I_rI, m_L_rI, m_R_rI, m_AI_rI, m_AL_rI, m_AD_rI, m_AR_rI, m_n_rI, m_I_rL, m_L_rL, m_R_rL, m_AI_rL, m_AL_rL, m_AD_rL, m_AR_rL, m_n_rL, m_I_rD, m_L_rD, m_R_rD, m_AI_rD, m_AL_rD, m_AD_rD, m_AR_rD, m_n_rD, m_I_rR, m_L_rR, m_R_rR, m_AI_rR, m_AL_rR, m_AD_rR, m_AR_rR, m_n_rR, true_and, and_true, and_false, false_and, and_self, if_true, if_false, ite_self, Nat.reduceEqDiff, reduceIte, obt, jlt, jbt, jbd_ite, bind_ite]; exact a5
  · simp only [m_I_sI, m_L_sI, m_R_sI, m_AI_sI, m_AL_sI, m_AD_sI, m_AR_sI, m_n_sI, m_I_sL, m_L_sL, m_R_sL, m_AI_sL, m_AL_sL, m_AD_sL, m_AR_sL, m_n_sL, m_I_sR, m_L_sR, m_R_sR, m_AI_sR, m_AL_sR, m_AD_sR, m_AR_sR, m_n_sR, m_I_rI, m_L_rI, m_R_rI, m_AI_rI, m_AL_rI, m_AD_rI, m_AR_rI, m_n_rI, m_I_rL, m_L_rL, m_R_rL, m_AI_rL, m_AL_rL, m_AD_rL, m_AR_rL, m_n_rL, m_I_rD, m_L_rD, m_R_rD, m_AI_rD, m_AL_rD, m_AD_rD, m_AR_rD, m_n_rD, m_I_rR, m_L_rR, m_R_rR, m_AI_rR, m_AL_rR, m_AD_rR, m_AR_rR, m_n_rR, true_and, and_true, and_false, false_and, and_self, if_true, if_false, ite_self, Nat.reduceEqDiff, reduceIte, obt, jlt, jbt, jbd_ite, bind_ite]; exact a6
  · simp only [m_I_sI, m_L_sI, m_R_sI, m_AI_sI, m_AL_sI, m_AD_sI, m_AR_sI, m_n_sI, m_I_sL, m_L_sL, m_R_sL, m_AI_sL, m_AL_sL, m_AD_sL, m_AR_sL, m_n_sL, m_I_sR, m_L_sR, m_R_sR, m_AI_sR, m_AL_sR, m_AD_sR, m_AR_sR, m_n_sR, m_I_rI, m_L_rI, m_R_rI, m_AI_rI, m_AL_rI, m_AD_rI, m_AR_rI, m_n_rI, m_I_rL, m_L_rL, m_R_rL, m_AI_rL, m_AL_rL, m_AD_rL, m_AR_rL, m_n_rL, m_I_rD, m_L_rD, m_R_rD, m_AI_rD, m_AL_rD, m_AD_rD, m_AR_rD, m_n_rD, m_I_rR, m_L_rR, m_R_rR, m_AI_rR, m_AL_rR, m_AD_rR, m_AR_rR, m_n_rR, true_and, and_true, and_false, false_and, and_self, if_true, if_false, ite_self, Nat.reduceEqDiff, reduceIte, obt, jlt, jbt, jbd_ite, bind_ite]
  · simp only [m_I_sI, m_L_sI, m_R_sI, m_AI_sI, m_AL_sI, m_AD_sI, m_AR_sI, m_n_sI, m_I_sL, m_L_sL, m_R_sL, m_AI_sL, m_AL_sL, m_AD_sL, m_AR_sL, m_n_sL, m_I_sR, m_L_sR, m_R_sR, m_AI_sR, m_AL_sR, m_AD_sR, m_AR_sR, m_n_sR, m_I_rI, m_L_rI, m_R_rI, m_AI_rI, m_AL_rI, m_AD_rI, m_AR_rI, m_n_rI, m_I_rL, m_L_rL, m_R_rL, m_AI_rL, m_AL_rL, m_AD_rL, m_AR_rL, m_n_rL, m_I_rD, m_L_rD, m_R_rD, m_AI_rD, m_AL_rD, m_AD_rD, m_AR_rD, m_n_rD, m_I_rR, m_L_rR, m_R_rR, m_AI_rR, m_AL_rR, m_AD_rR, m_AR_rR, m_n_rR, true_and, and_true, and_false, false_and, and_self, if_true, if_false, ite_self, Nat.reduceEqDiff, reduceIte, obt, jlt, jbt, jbd_ite, bind_ite]
  · simp only [m_I_sI, m_L_sI, m_R_sI, m_AI_sI, m_AL_sI, m_AD_sI, m_AR_sI, m_n_sI, m_I_sL, m_L_sL, m_R_sL, m_AI_sL, m_AL_sL, m_AD_sL, m_AR_sL, m_n_sL, m_I_sR, m_L_sR, m_R_sR, m_AI_sR, m_AL_sR, m_AD_sR, m_AR_sR, m_n_sR, m_I_rI, m_L_rI, m_R_rI, m_AI_rI, m_AL_rI, m_AD_rI, m_AR_rI, m_n_rI, m_I_rL, m_L_rL, m_R_rL, m_AI_rL, m_AL_rL, m_AD_rL, m_AR_rL, m_n_rL, m_I_rD, m_L_rD, m_R_rD, m_AI_rD, m_AL_rD, m_AD_rD, m_AR_rD, m_n_rD, m_I_rR, m_L_rR, m_R_rR, m_AI_rR, m_AL_rR, m_AD_rR, m_AR_rR, m_n_rR, true_and, and_true, and_false, false_and, and_self, if_true, if_false, ite_self, Nat.reduceEqDiff, reduceIte, obt, jlt, jbt, jbd_ite, bind_ite]; exact a9
  · simp only [m_I_sI, m_L_sI, m_R_sI, m_AI_sI, m_AL_sI, m_AD_sI, m_AR_sI, m_n_sI, m_I_sL, m_L_sL, m_R_sL, m_AI_sL, m_AL_sL, m_AD_sL, m_AR_sL, m_n_sL, m_I_sR, m_L_sR, m_R_sR, m_AI_sR, m_AL_sR, m_AD_sR, m_AR_sR, m_n_sR, m_I_rI, m_L_rI, m_R_rI, m_AI_rI, m_AL_rI, m_AD_rI, m_AR_rI, m_n_rI, m_I_rL, m_L_rL, m_R_rL, m_AI_rL, m_AL_rL, m_AD_rL, m_AR_rL, m_n_rL, m_I_rD, m_L_rD, m_R_rD, m_AI_rD, m_AL_rD, m_AD_rD, m_AR_rD, m_n_rD, m_I_rR, m_L_rR, m_R_rR, m_AI_rR, m_AL_rR, m_AD_rR, m_AR_rR, m_n_rR, true_and, and_true, and_false, false_and, and_self, if_true, if_false, ite_self, Nat.reduceEqDiff, reduceIte, obt, jlt, jbt, jbd_ite, bind_ite]; exact a11
  · simp only [m_I_sI, m_L_sI, m_R_sI, m_AI_sI, m_AL_sI, m_AD_sI, m_AR_sI, m_n_sI, m_I_sL, m_L_sL, m_R_sL, m_AI_sL, m_AL_sL, m_AD_sL, m_AR_sL, m_n_sL, m_I_sR, m_L_sR, m_R_sR, m_AI_sR, m_AL_sR, m_AD_sR, m_AR_sR, m_n_sR, m_I_rI, m_L_rI, m_R_rI, m_AI_rI, m_AL_rI, m_AD_rI, m_AR_rI, m_n_rI, m_I_rL, m_L_rL, m_R_rL, m_AI_rL, m_AL_rL, m_AD_rL, m_AR_rL, m_n_rL, m_I_rD, m_L_rD, m_R_rD, m_AI_rD, m_AL_rD, m_AD_rD, m_AR_rD, m_n_rD, m_I_rR, m_L_rR, m_R_rR, m_AI_rR, m_AL_rR, m_AD_rR, m_AR_rR, m_n_rR, true_and, and_true, and_false, false_and, and_self, if_true, if_false, ite_self, Nat.reduceEqDiff, reduceIte, obt, jlt, jbt, jbd_ite, bind_ite]; exact a12
  · simp only [m_I_sI, m_L_sI, m_R_sI, m_AI_sI, m_AL_sI, m_AD_sI, m_AR_sI, m_n_sI, m_I_sL, m_L_sL, m_R_sL, m_AI_sL, m_AL_sL, m_AD_sL, m_AR_sL, m_n_sL, m_I_sR, m_L_sR, m_R_sR, m_AI_sR, m_AL_sR, m_AD_sR, m_AR_sR, m_n_sR, m_I_rI, m_L_rI, m_R_rI, m_AI_rI, m_AL_rI, m_AD_rI, m_AR_rI, m_n_rI, m_I_rL, m_L_rL, m_R_rL, m_AI_rL, m_AL_rL, m_AD_rL, m_AR_rL, m_n_rL, m_I_rD, m_L_rD, m_R_rD, m_AI_rD, m_AL_rD, m_AD_rD, m_AR_rD, m_n_rD, m_I_rR, m_L_rR, m_R_rR, m_AI_rR, m_AL_rR, m_AD_rR, m_AR_rR, m_n_rR, true_and, and_true, and_false, false_and, and_self, if_true, if_false, ite_self, Nat.reduceEqDiff, reduceIte, obt, jlt, jbt, jbd_ite, bind_ite]; exact a14 z
  · simp only [m_I_sI, m_L_sI, m_R_sI, m_AI_sI, m_AL_sI, m_AD_sI, m_AR_sI, m_n_sI, m_I_sL, m_L_sL, m_R_sL, m_AI_sL, m_AL_sL, m_AD_sL, m_AR_sL, m_n_sL, m_I_sR, m_L_sR, m_R_sR, m_AI_sR, m_AL_sR, m_AD_sR, m_AR_sR, m_n_sR, m_I_rI, m_L_rI, m_R_rI, m_AI_rI, m_AL_rI, m_AD_rI, m_AR_rI, m_n_rI, m_I_rL, m_L_rL, m_R_rL, m_AI_rL, m_AL_rL, m_AD_rL, m_AR_rL, m_n_rL, m_I_rD, m_L_rD, m_R_rD, m_AI_rD, m_AL_rD, m_AD_rD, m_AR_rD, m_n_rD, m_I_rR, m_L_rR, m_R_rR, m_AI_rR, m_AL_rR, m_AD_rR, m_AR_rR, m_n_rR, true_and, and_true, and_false, false_and, and_self, if_true, if_false, ite_self, Nat.reduceEqDiff, reduceIte, obt, jlt, jbt, jbd_ite, bind_ite]; exact b2
  · obtain ⟨c1, c2, c3⟩ := b3 z
    refine ⟨?_, ?_, ?_⟩
    · unfold tokAt at *
      simp only [m_I_sI, m_L_sI, m_R_sI, m_AI_sI, m_AL_sI, m_AD_sI, m_AR_sI, m_n_sI, m_I_sL, m_L_sL, m_R_sL, m_AI_sL, m_AL_sL, m_AD_sL, m_AR_sL, m_n_sL, m_I_sR, m_L_sR, m_R_sR, m_AI_sR, m_AL_sR, m_AD_sR, m_AR_sR, m_n_sR, m_I_rI, m_L_rI, m_R_rI, m_AI_rI, m_AL_rI, m_AD_rI, m_AR_rI, m_n_rI, m_I_rL, m_L_rL, m_R_rL, m_AI_rL, m_AL_rL, m_AD_rL, m_AR_rL, m_n_rL, m_I_rD, m_L_rD, m_R_rD, m_AI_rD, m_AL_rD, m_AD_rD, m_AR_rD, m_n_rD, m_I_rR, m_L_rR, m_R_rR, m_AI_rR, m_AL_rR, m_AD_rR, m_AR_rR, m_n_rR, true_and, and_true, and_false, false_and, and_self, if_true, if_false, ite_self, Nat.reduceEqDiff, reduceIte, obt, jlt, jbt, jbd_ite, bind_ite]
      exact c1
    · simp only [m_I_sI, m_L_sI, m_R_sI, m_AI_sI, m_AL_sI, m_AD_sI, m_AR_sI, m_n_sI, m_I_sL, m_L_sL, m_R_sL, m_AI_sL, m_AL_sL, m_AD_sL, m_AR_sL, m_n_sL, m_I_sR, m_L_sR, m_R_sR, m_AI_sR, m_AL_sR, m_AD_sR, m_AR_sR, m_n_sR, m_I_rI, m_L_rI, m_R_rI, m_AI_rI, m_AL_rI, m_AD_rI, m_AR_rI, m_n_rI, m_I_rL, m_L_rL, m_R_rL, m_AI_rL, m_AL_rL, m_AD_rL, m_AR_rL, m_n_rL, m_I_rD, m_L_rD, m_R_rD, m_AI_rD, m_AL_rD, m_AD_rD, m_AR_rD, m_n_rD, m_I_rR, m_L_rR, m_R_rR, m_AI_rR, m_AL_rR, m_AD_rR, m_AR_rR, m_n_rR, true_and, and_true, and_false, false_and, and_self, if_true, if_false, ite_self, Nat.reduceEqDiff, reduceIte, obt, jlt, jbt, jbd_ite, bind_ite]; exact c2
    · simp only [m_I_sI, m_L_sI, m_R_sI, m_AI_sI, m_AL_sI, m_AD_sI, m_AR_sI, m_n_sI, m_I_sL, m_L_sL, m_R_sL, m_AI_sL, m_AL_sL, m_AD_sL, m_AR_sL, m_n_sL, m_I_sR, m_L_sR, m_R_sR, m_AI_sR, m_AL_sR, m_AD_sR, m_AR_sR, m_n_sR, m_I_rI, m_L_rI, m_R_rI, m_AI_rI, m_AL_rI, m_AD_rI, m_AR_rI, m_n_rI, m_I_rL, m_L_rL, m_R_rL, m_AI_rL, m_AL_rL, m_AD_rL, m_AR_rL, m_n_rL, m_I_rD, m_L_rD, m_R_rD, m_AI_rD, m_AL_rD, m_AD_rD, m_AR_rD, m_n_rD, m_I_rR, m_L_rR, m_R_rR, m_AI_rR, m_AL_rR, m_AD_rR, m_AR_rR, m_n_rR, true_and, and_true, and_false, false_and, and_self, if_true, if_false, ite_self, Nat.reduceEqDiff, reduceIte, obt, jlt, jbt, jbd_ite, bind_ite]; exact c3
theorem St.dn {T t np cn : Nat} {v w : Int32} {C R : jM} : St T t np cn C R (jsI C 30 607 v) (jsI R 117 2398 w) :=
  ⟨(Fr.refl).sI (by unfold pPC; omega), (Fr.refl).sI (by unfold pPR; omega), fun _ _ => ⟨rfl, rfl, fun _ _ => rfl⟩, ⟨fun _ _ => ⟨rfl, rfl, rfl, rfl, rfl, rfl⟩, fun _ _ => rfl⟩, fun _ _ => ⟨rfl, rfl, rfl, rfl⟩⟩
theorem tT_sum {C : jM} {T : Nat} {ru : Nat → Nat × Nat × Nat} {nr rs d hi p : Nat} {A : Nat → Prop} (h1 : jAI C (T + 1) p = 146) (hph : p < hi) (h01 : ∀ j, j < 2 → ∃ i, jAI C (T + 3) (3 * p + j) = nI i ∧ tT C T ru nr rs d A (p + 1) hi i) (h2 : ∃ i, jAI C (T + 3) (3 * p + 2) = nI i ∧ tT C T ru nr rs d (fun q => A q ∨ q = p) (p + 1) hi i) : tT C T ru nr rs (d + 1) A p hi p := by
  unfold tT tOK
  rw [h1]
  refine ⟨Nat.le_refl _, hph, by unfold tkind; decide, fun j hj => ?_, fun z => absurd z (by decide), fun z => absurd z (by decide)⟩
  have hj3 : j < 3 := hj
  by_cases c : j = 2
  · subst c
    obtain ⟨i, i1, i2⟩ := h2
    exact ⟨i, i1, by rw [if_pos rfl, if_pos rfl]; exact i2⟩
  · obtain ⟨i, i1, i2⟩ := h01 j (by omega)
    exact ⟨i, i1, by rw [if_pos rfl, if_neg c]; exact i2⟩
theorem LKsum {B : Nat → Int32} {e N T t : Nat} {ru : Nat → Nat × Nat × Nat} {rs nr k : Nat} {rcC rcR : Nat → Nat → Int32 → Int32 → jM → Option (Int32 × jM)} (hk : k < 20)
    (hE : LK B e N T t ru rs nr (rcC 0 607 (nI (k + 1)) 0) (rcR 0 2398 (nI (k + 1)) 0) (k + 1)) (hU : LK B e N T t ru rs nr (rcC 4 607 (nI (k + 1)) 0) (rcR 5 2398 (nI (k + 1)) 0) (k + 1)) (fE : ∀ C, Lay C → jI C 26 607 ≠ 0 → rcC 0 607 (nI (k + 1)) 0 C = some (-1, C)) :
    ∀ (A : Nat → Prop) (np cn : Nat) (C R : jM), rs ≤ np → cn ≤ k → PS B e N T t A np nr cn 0 C R → jI C 40 608 = 146 → LC B e N T t ru rs nr A np cn 0 C R (f_X4_readSum rcC 607 (nI k) C) (jbd (f_X12_part 2398 R) (fun x20 S21 => if x20 = 0 then some ((-1 : Int32), S21) else f_X12_sum rcR 2398 (nI k) S21)) := by
  intro A np cn C R hrs hcn h c146
  have hT := h.pt
  have s1 : (nI k : Int32) + 1 = nI (k + 1) := nJ_1 (by omega)
  obtain ⟨q, q1, q2, q3, q4, q5, q6, q7, q8, q9, q10, q11⟩ := h.tk
  have eK : (tkv B e (tps B e q)).1 = jI C 40 608 := q4.2.1.symm
  rcases BS.new (ru := ru) (rs := rs) h St.refl (Nat.le_refl _) (fun k a b => absurd b (by omega)) q3 q2 (by rw [eK, c146]; decide) (by rw [eK, c146]; decide) 146 19 0 (by decide) with ⟨C1, R1, fl1, p1, p2, p3, p4, p5⟩ | ⟨C1, R1, R2, R3, p1, p2, p3, p4, p5, b1, -⟩
  · obtain ⟨n1, n2⟩ := nfl p4 p3
    have hT1 := p4.pt
    refine LC.flt (x := -1) (y := -1) ?_ ?_ (Nat.le_refl _) p4 p5 p3
    · unfold f_X4_readSum
      simp only [k_607, k_608, p1, ly_24 hT1.1, hT1.2.2.2.2.2.1, s1, fE C1 hT1.1 n1, hT1.2.2.1, set_m, tk_flt n1, n1, true_and, and_true, and_false, false_and, and_self, if_true, if_false, ite_self, Nat.reduceEqDiff, reduceIte, obt, jlt, jbt, jbd_ite, bind_ite]
    · rw [p2, jbt, if_pos rfl]
  · rw [p2, jbt, if_neg (by decide)]
    obtain ⟨r, r1, r2, r3, r4, r5, r6, r7, r8, r9, r10, r11⟩ := b1.1.tk
    obtain ⟨w1, w2, w3, w4, w5⟩ := qA r2
    obtain ⟨C2, R4, f1, g1, t1, t2, b2⟩ := b1.take' (by decide) 2 40 (by decide) (by decide) (by decide) (by decide)
    obtain ⟨C3, R5, f2, g2, t3, t4, b3⟩ := b2.take' (by decide) 134 7 (by decide) (by decide) (by decide) (by decide)
    obtain ⟨x1, y1, C4, R6, C5, R7, np1, f3, g3, i1, i2, i3, i4, -, -, b4⟩ := b3.inner' hE hrs (by omega) (by decide) 0 rfl 2409 rfl
    obtain ⟨C6, R8, f4, g4, t5, t6, b5⟩ := b4.take' (by decide) 148 21 (by decide) (by decide) (by decide) (by decide)
    obtain ⟨x2, y2, C7, R9, C8, R10, np2, f5, g5, i5, i6, i7, i8, -, -, b6⟩ := b5.inner' hE hrs (by omega) (by decide) 1 rfl 2410 rfl
    obtain ⟨C9, R11, f6, g6, t7, t8, b7⟩ := b6.take' (by decide) 142 15 (by decide) (by decide) (by decide) (by decide)
    have ec : f_X4_readSum rcC 607 (nI k) C = (if (jI C9 26 607) = 0 then if (20 : Int32) ≤ (jI C9 30 607) then some (nI np, C9) else (jR C9 28 607).bind (fun r35 => if jA r35 14 (jI C9 30 607) = true then jlet (jrL C9 r35 (vp_updL (jAL C9 r35) (jI C9 30 607).toNatClampNeg (jL C1 42 608))) (fun S38 => (jR S38 29 607).bind (fun r39 => if jA r39 13 (jI S38 30 607) = true then jlet (jrI S38 r39 (upd (jAI S38 r39) (jI S38 30 607).toNatClampNeg (nI np))) (fun S42 => jlet (jsI S42 30 607 ((jI S42 30 607) + (1 : Int32))) (fun S43 => (jR S43 25 607).bind (fun r44 => jbd (rcC 4 607 (nI (k + 1)) 0 S43) (fun x46 S47 => if jK r44 = 6 then (f_X8_setInner r44 (nI np) (2 : Int32) x46 S47).bind (fun S49 => jlet (jsI S49 30 607 ((jI S49 30 607) - (1 : Int32))) (fun S52 => some ((nI np), S52))) else none)))) else none)) else none) else some (nI np, C9)) := by
      unfold f_X4_readSum
      simp only [k_607, k_608, p1, s1, b1.ly, b2.ly, b3.ly, b4.ly, b5.ly, i1, i3, t1, t3, t5, i5, i7, t7, true_and, and_true, and_false, false_and, and_self, if_true, if_false, ite_self, Nat.reduceEqDiff, reduceIte, obt, jlt, jbt, jbd_ite, bind_ite]
    have er : f_X12_sum rcR 2398 (nI k) R1 = (if (jI R11 101 2398) = 0 then (jR R11 115 2398).bind (fun r33 => if jA r33 14 (jI R11 117 2398) = true then jlet (jrL R11 r33 (vp_updL (jAL R11 r33) (jI R11 117 2398).toNatClampNeg (jAL R3 2406 r))) (fun S36 => (jR S36 116 2398).bind (fun r37 => if jA r37 13 (jI S36 117 2398) = true then jlet (jrI S36 r37 (upd (jAI S36 r37) (jI S36 117 2398).toNatClampNeg (nI (301 * t + np)))) (fun S40 => jlet (jsI S40 117 2398 ((jI S40 117 2398) + (1 : Int32))) (fun S41 => (jR S41 106 2398).bind (fun r42 => jbd (rcR 5 2398 (nI (k + 1)) 0 S41) (fun x44 S45 => if jA r42 13 (nI (301 * t + np)) = true then jlet (jrI S45 r42 (upd (jAI S45 r42) (nI (301 * t + np)).toNatClampNeg x44)) (fun S48 => jlet (jsI S48 117 2398 ((jI S48 117 2398) - (1 : Int32))) (fun S49 => some ((nI (301 * t + np)), S49))) else none)))) else none)) else none) else some ((nI (301 * t + np)), R11)) := by
      unfold f_X12_sum
      simp only [k_2398, p4, p5, s1, b1.ly, b1.at, b2.ly, b3.ly, b4.ly, b5.ly, ly_97 b1.1.pt.2.1, r3, w3, w5, i2, i4, t2, t4, t6, i6, i8, t8, true_and, and_true, and_false, false_and, and_self, if_true, if_false, ite_self, Nat.reduceEqDiff, reduceIte, obt, jlt, jbt, jbd_ite, bind_ite]
    rw [ec, er]
    by_cases cf : f6 = 0
    · have ef1 : f1 = 0 := g2 (g3 (g4 (g5 (g6 cf))))
      have ek2 : jI C1 40 608 = 2 := take_K b1.1 t1 b2.1 ef1
      have eN : jL C1 42 608 = jAL R3 2406 r := by rw [r4.2.2.2.1 (.inl (by rw [← r4.2.1]; exact ek2)), r5.2.1 (.inl (by rw [← r4.2.1]; exact ek2))]
      rw [← eN]
      generalize jL C1 42 608 = v
      clear ec er eN ek2 ef1 g1 g2 g3 g4 g5 g6
      subst cf
      obtain ⟨u1, u2, u3, u4, u5, u6⟩ := b7
      have hp : np < 300 := by have := u1.2.1; omega
      have hsub : nI (cn + 1) - (1 : Int32) = nI cn := nJ_sub (a := cn + 1) (b := 1) (by omega) (by omega)
      have k30 : jI C9 30 607 = nI cn := u1.2.2.2.2.2.2.2.1
      have k117 : jI R11 117 2398 = nI cn := u1.2.2.2.2.2.2.2.2.1
      have U := u1.up (show cn < 20 by omega) hp v
      have SU : St T t np2 cn C9 R11 (upC cn np v C9) (upR t cn np v R11) := St.up u1.pt.2.2.1
      obtain ⟨x, y, C12, R14, np3, f7, e1, e2, e3, e4, e5, e6⟩ := hU (fun s => A s ∨ s = np) np2 (cn + 1) 0 _ _ (by omega) (by omega) U
      have hT4 := e4.pt
      have hset := set_c hT4.1 hT4.2.2.1 e4.2.2.2.2.1 e4.2.1 (show np < np3 by omega) (show 2 < 3 by decide) x
      have a11 : jA 2411 13 (nI (301 * t + np)) = true := (nA h.pt.2.2.2.1 (show np < 301 by omega)).2.2.2.2.1
      have c11 : (nI (301 * t + np)).toNatClampNeg = 301 * t + np := (nA h.pt.2.2.2.1 (show np < 301 by omega)).2.2.2.2.2.2.2
      have i30 : jI (sC T np 2 x C12) 30 607 = nI (cn + 1) := by unfold sC; simp only [m_I_sI, m_L_sI, m_R_sI, m_AI_sI, m_AL_sI, m_AD_sI, m_AR_sI, m_n_sI, m_I_sL, m_L_sL, m_R_sL, m_AI_sL, m_AL_sL, m_AD_sL, m_AR_sL, m_n_sL, m_I_sR, m_L_sR, m_R_sR, m_AI_sR, m_AL_sR, m_AD_sR, m_AR_sR, m_n_sR, m_I_rI, m_L_rI, m_R_rI, m_AI_rI, m_AL_rI, m_AD_rI, m_AR_rI, m_n_rI, m_I_rL, m_L_rL, m_R_rL, m_AI_rL, m_AL_rL, m_AD_rL, m_AR_rL, m_n_rL, m_I_rD, m_L_rD, m_R_rD, m_AI_rD, m_AL_rD, m_AD_rD, m_AR_rD, m_n_rD, m_I_rR, m_L_rR, m_R_rR, m_AI_rR, m_AL_rR, m_AD_rR, m_AR_rR, m_n_rR]; exact e4.2.2.2.2.2.2.2.1
      have i117 : jI (sR t np 2411 y R14) 117 2398 = nI (cn + 1) := by unfold sR; simp only [m_I_sI, m_L_sI, m_R_sI, m_AI_sI, m_AL_sI, m_AD_sI, m_AR_sI, m_n_sI, m_I_sL, m_L_sL, m_R_sL, m_AI_sL, m_AL_sL, m_AD_sL, m_AR_sL, m_n_sL, m_I_sR, m_L_sR, m_R_sR, m_AI_sR, m_AL_sR, m_AD_sR, m_AR_sR, m_n_sR, m_I_rI, m_L_rI, m_R_rI, m_AI_rI, m_AL_rI, m_AD_rI, m_AR_rI, m_n_rI, m_I_rL, m_L_rL, m_R_rL, m_AI_rL, m_AL_rL, m_AD_rL, m_AR_rL, m_n_rL, m_I_rD, m_L_rD, m_R_rD, m_AI_rD, m_AL_rD, m_AD_rD, m_AR_rD, m_n_rD, m_I_rR, m_L_rR, m_R_rR, m_AI_rR, m_AL_rR, m_AD_rR, m_AR_rR, m_n_rR]; exact e4.2.2.2.2.2.2.2.2.1
      have hEC : (if (jI C9 26 607) = 0 then if (20 : Int32) ≤ (jI C9 30 607) then some (nI np, C9) else (jR C9 28 607).bind (fun r35 => if jA r35 14 (jI C9 30 607) = true then jlet (jrL C9 r35 (vp_updL (jAL C9 r35) (jI C9 30 607).toNatClampNeg v)) (fun S38 => (jR S38 29 607).bind (fun r39 => if jA r39 13 (jI S38 30 607) = true then jlet (jrI S38 r39 (upd (jAI S38 r39) (jI S38 30 607).toNatClampNeg (nI np))) (fun S42 => jlet (jsI S42 30 607 ((jI S42 30 607) + (1 : Int32))) (fun S43 => (jR S43 25 607).bind (fun r44 => jbd (rcC 4 607 (nI (k + 1)) 0 S43) (fun x46 S47 => if jK r44 = 6 then (f_X8_setInner r44 (nI np) (2 : Int32) x46 S47).bind (fun S49 => jlet (jsI S49 30 607 ((jI S49 30 607) - (1 : Int32))) (fun S52 => some ((nI np), S52))) else none)))) else none)) else none) else some (nI np, C9)) = some (nI np, jsI (sC T np 2 x C12) 30 607 (nI cn)) := by
        have a16 : jA 616 14 (nI cn) = true := jA_n k_616 (by rw [ln_616]; omega) (by omega)
        have a17 : jA 617 13 (nI cn) = true := jA_n k_617 (by rw [ln_617]; omega) (by omega)
        rw [u1.fr0.1, if_pos rfl, k30, if_neg (by rw [show (20 : Int32) = nI 20 from rfl, nJ_le (by omega) (by omega)]; omega), ly_28 u1.pt.1, obt, if_pos a16, jlt, nJ_cl (show cn < 2147483648 by omega)]
        simp only [m_R_rL, m_I_rL, m_AI_rL, m_I_rI, ly_29 u1.pt.1, k30, a17, nJ_cl (show cn < 2147483648 by omega), nJ_1 (show cn + 1 < 2147483648 by omega), obt, jlt, if_true]
        have hup : jsI (jrI (jrL C9 616 (vp_updL (jAL C9 616) cn v)) 617 (upd (jAI C9 617) cn (nI np))) 30 607 (nI (cn + 1)) = upC cn np v C9 := rfl
        rw [hup, U.pt.2.2.2.2.2.1, obt, e1, jbt, if_pos hT4.2.2.1]
        have hset' : f_X8_setInner T (nI np) 2 x C12 = some (sC T np 2 x C12) := hset
        rw [hset', obt, i30, hsub]
      have hER : (if (jI R11 101 2398) = 0 then (jR R11 115 2398).bind (fun r33 => if jA r33 14 (jI R11 117 2398) = true then jlet (jrL R11 r33 (vp_updL (jAL R11 r33) (jI R11 117 2398).toNatClampNeg v)) (fun S36 => (jR S36 116 2398).bind (fun r37 => if jA r37 13 (jI S36 117 2398) = true then jlet (jrI S36 r37 (upd (jAI S36 r37) (jI S36 117 2398).toNatClampNeg (nI (301 * t + np)))) (fun S40 => jlet (jsI S40 117 2398 ((jI S40 117 2398) + (1 : Int32))) (fun S41 => (jR S41 106 2398).bind (fun r42 => jbd (rcR 5 2398 (nI (k + 1)) 0 S41) (fun x44 S45 => if jA r42 13 (nI (301 * t + np)) = true then jlet (jrI S45 r42 (upd (jAI S45 r42) (nI (301 * t + np)).toNatClampNeg x44)) (fun S48 => jlet (jsI S48 117 2398 ((jI S48 117 2398) - (1 : Int32))) (fun S49 => some ((nI (301 * t + np)), S49))) else none)))) else none)) else none) else some ((nI (301 * t + np)), R11)) = some (nI (301 * t + np), jsI (sR t np 2411 y R14) 117 2398 (nI cn)) := by
        have a18 : jA 2418 14 (nI cn) = true := jA_n k_2418 (by rw [ln_2418]; omega) (by omega)
        have a19 : jA 2419 13 (nI cn) = true := jA_n k_2419 (by rw [ln_2419]; omega) (by omega)
        rw [u1.fr0.2, if_pos rfl, k117, ly_115 u1.pt.2.1, obt, if_pos a18, jlt, nJ_cl (show cn < 2147483648 by omega)]
        simp only [m_R_rL, m_I_rL, m_AI_rL, m_I_rI, ly_116 u1.pt.2.1, k117, a19, nJ_cl (show cn < 2147483648 by omega), nJ_1 (show cn + 1 < 2147483648 by omega), obt, jlt, if_true]
        have hup : jsI (jrI (jrL R11 2418 (vp_updL (jAL R11 2418) cn v)) 2419 (upd (jAI R11 2419) cn (nI (301 * t + np)))) 117 2398 (nI (cn + 1)) = upR t cn np v R11 := rfl
        rw [hup, ly_106 U.pt.2.1, obt, e2, jbt, if_pos a11, c11]
        have hsr : jrI R14 2411 (upd (jAI R14 2411) (301 * t + np) y) = sR t np 2411 y R14 := rfl
        rw [hsr, show jI R14 117 2398 = nI (cn + 1) from e4.2.2.2.2.2.2.2.2.1, hsub]
      rw [hEC, hER]
      have St1 : St T t np cn C R (upC cn np v C9) (upR t cn np v R11) := u2.trans SU (by omega) (Nat.le_refl _)
      have St2 : St T t np cn C R C12 R14 := St1.trans e5 (by omega) (by omega)
      have St3 : St T t np cn C12 R14 (sC T np 2 x C12) (sR t np 2411 y R14) := St.set hT4.2.2.1 (Nat.le_refl _) hp (by decide) (.inr (.inr rfl))
      have StA : St T t np2 cn C9 R11 C12 R14 := SU.trans e5 (Nat.le_refl _) (by omega)
      have hP1 : PS B e N T t (fun s => A s ∨ s = np) np3 nr (cn + 1) f7 (sC T np 2 x C12) (sR t np 2411 y R14) := e4.nd sC_fr (sR_fr (.inr (.inr rfl)))
      have c10 : ∀ i, i < cn → jAL (sC T np 2 x C12) 616 i = jAL (sR t np 2411 y R14) 2418 i ∧ ∃ s, A s ∧ s < 300 ∧ jAI (sC T np 2 x C12) 617 i = nI s ∧ jAI (sR t np 2411 y R14) 2419 i = nI (301 * t + s) := by
        intro i hi
        obtain ⟨z1, z2, z3, z4⟩ := StA.2.2.2.2 i hi
        obtain ⟨z5, z6, z7, z8⟩ := St3.2.2.2.2 i hi
        obtain ⟨y1, s, y2, y3, y4, y5⟩ := u1.2.2.2.2.2.2.2.2.2.2.1 i hi
        exact ⟨by rw [z5, z1, y1, z7, z3], s, y2, y3, by rw [z6, z2, y4], by rw [z8, z4, y5]⟩
      refine ⟨_, _, _, _, np3, f7, rfl, rfl, by omega, hP1.dn c10, (St2.trans St3 (Nat.le_refl _) (Nat.le_refl _)).trans St.dn (Nat.le_refl _) (Nat.le_refl _), fun z => ?_⟩
      obtain ⟨z1, i, i1, i2, i3, i4, i5⟩ := e6 z
      obtain ⟨v1, v2, v3⟩ := u6 rfl
      subst i1
      subst i2
      have hi3 : i < 300 := by have := (tT_lt i5).2; have := e4.2.1; omega
      have F2 : Fin' T t (np + 1) np2 (sC T np 2 (nI i) C12) (sR t np 2411 (nI (301 * t + i)) R14) := (v2.o StA (Nat.le_refl _)).set (j := 2) (by omega) (by omega)
      have F3 : Fin' T t np2 np3 (sC T np 2 (nI i) C12) (sR t np 2411 (nI (301 * t + i)) R14) := i4.set (j := 2) (by omega) (by omega)
      have N3 : ND T t np 146 3 (sC T np 2 (nI i) C12) (sR t np 2411 (nI (301 * t + i)) R14) := (u5.o StA u4).set
      have I2 : IN T t np 2 i (sC T np 2 (nI i) C12) (sR t np 2411 (nI (301 * t + i)) R14) := IN.new hi3
      have I01 : ∀ j, j < 2 → ∃ i', IN T t np j i' (sC T np 2 (nI i) C12) (sR t np 2411 (nI (301 * t + i)) R14) ∧ tT (sC T np 2 (nI i) C12) T ru nr rs (np3 - np - 1 + rs) A (np + 1) np3 i' := by
        intro j hj
        obtain ⟨i', j1, l, hh, l1, l2, l3, l4, l5⟩ := v3 j hj
        have hlt := tT_lt l5
        have l6 : np < l := by rcases l4 with z | z <;> omega
        have l7 : tT (sC T np 2 (nI i) C12) T ru nr rs (hh - l + rs) A l hh i' := (l5.o StA.2.2.1 l2 (Nat.le_refl _) (Nat.le_refl _) (Nat.le_refl _)).set (.inl l6) (by omega)
        exact ⟨i', (j1.o StA u4 (by omega)).set (by omega), tOK_m (Nat.le_refl _) (fun _ _ => rfl) _ A A l hh i' (np3 - np - 1 + rs) (np + 1) np3 l7 (by omega) (fun _ z => z) (by omega) (by omega) (fun k _ _ => ⟨rfl, rfl, fun _ _ => rfl⟩)⟩
      have T2 : tT (sC T np 2 (nI i) C12) T ru nr rs (np3 - np - 1 + rs) (fun q => A q ∨ q = np) (np + 1) np3 i := tOK_m (Nat.le_refl _) (fun _ _ => rfl) _ _ _ np2 np3 i (np3 - np - 1 + rs) (np + 1) np3 (i5.set (p := np) (j := 2) (x := nI i) (.inl (by omega)) (by omega)) (by omega) (fun _ z => z) (by omega) (Nat.le_refl _) (fun k _ _ => ⟨rfl, rfl, fun _ _ => rfl⟩)
      have rk : rK (sC T np 2 (nI i) C12) T (sR t np 2411 (nI (301 * t + i)) R14) t np := rK_in N3.1 N3.2.1 hT.2.2.2.1 (by decide) (fun j hj => by
        by_cases c : j = 2
        · subst c
          exact ⟨i, I2.1, I2.2.1, I2.2.2⟩
        · have hj3 : j < 3 := hj
          obtain ⟨i', j1, -⟩ := I01 j (by omega)
          exact ⟨i', j1.1, j1.2.1, j1.2.2⟩) (fun j a b => absurd (show 3 ≤ j from a) (by omega))
      have tt : tT (sC T np 2 (nI i) C12) T ru nr rs (np3 - np - 1 + rs + 1) A np np3 np := tT_sum N3.1 (by omega) (fun j hj => by obtain ⟨i', j1, j2⟩ := I01 j hj; exact ⟨i', j1.2.1, j2⟩) ⟨i, I2.2.1, T2⟩
      have ed : np3 - np - 1 + rs + 1 = np3 - np + rs := by omega
      rw [ed] at tt
      exact ⟨rfl, np, rfl, rfl, by omega, Fin'.o (np := np3) (cn := cn) (fun k y1 y2 => by
        by_cases c1 : k = np
        · rw [c1]; exact rk
        · by_cases c2 : k < np2
          · exact F2 k (by omega) c2
          · exact F3 k (by omega) y2) St.dn (Nat.le_refl _), tt⟩
    · obtain ⟨n1, n2⟩ := nfl b7.1 cf
      have n3 : ¬ jI R11 101 2398 = 0 := fun z => n2 (by rw [z]; decide)
      rw [if_neg n1, if_neg n3]
      exact LC.flt rfl rfl (by have := b7.2.2.2.1; omega) b7.1 b7.2.1 cf

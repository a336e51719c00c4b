/-! PURE: the parser: a part and what it is made of -/
theorem St.part {T t np cn : Nat} {kd km : Int32} {ct : Int64} {C R C' : jM} {w v : Int32} (hk : jK T = 6) (hF : Fr pTk (nC T np kd ct C) C') (hnp : np < 300) : St T t np cn C R C' (jsI (nR t np km (jsI R 114 2398 w)) 100 2398 v) := by
  obtain ⟨⟨n1, n2, n3⟩, n4, n5, n6⟩ := t_616 hk
  have hFc : Fr (pPC T) C (nC T np kd ct C) := (((Fr.refl).rI (by unfold pPC; omega)).rL (by unfold pPC; omega)).sI (by unfold pPC; omega)
  have hFr : Fr pPR R (nR t np km (jsI R 114 2398 w)) := ((((((((Fr.refl).sI (by unfold pPR; omega)).rI (by unfold pPR; omega)).rI (by unfold pPR; omega)).rI (by unfold pPR; omega)).rI (by unfold pPR; omega)).rI (by unfold pPR; omega)).rL (by unfold pPR; omega))
  refine ⟨hFc.trans (hF.mono (fun _ _ _ => pTk_PC)), hFr.sI (by unfold pPR; omega), fun k hk => ?_, ⟨fun z hz => ?_, fun s hs => ?_⟩, fun i hi => ?_⟩
  · rw [hF.ai (by unfold pTk; omega), hF.al (by unfold pTk; omega), hF.ai (by unfold pTk; omega)]
    unfold nC
    simp only [m_I_sI, m_L_sI, m_R_sI, m_AI_sI, m_AL_sI, m_AD_sI, m_AR_sI, m_n_sI, m_I_sL, m_L_sL, m_R_sL, m_AI_sL, m_AL_sL, m_AD_sL, m_AR_sL, m_n_sL, m_I_sR, m_L_sR, m_R_sR, m_AI_sR, m_AL_sR, m_AD_sR, m_AR_sR, m_n_sR, m_I_rI, m_L_rI, m_R_rI, m_AI_rI, m_AL_rI, m_AD_rI, m_AR_rI, m_n_rI, m_I_rL, m_L_rL, m_R_rL, m_AI_rL, m_AL_rL, m_AD_rL, m_AR_rL, m_n_rL, m_I_rD, m_L_rD, m_R_rD, m_AI_rD, m_AL_rD, m_AD_rD, m_AR_rD, m_n_rD, m_I_rR, m_L_rR, m_R_rR, m_AI_rR, m_AL_rR, m_AD_rR, m_AR_rR, m_n_rR, true_and, and_true, and_false, false_and, and_self, if_true, if_false, ite_self, Nat.reduceEqDiff, reduceIte, obt, jlt, jbt, jbd_ite, bind_ite]
    rw [upd_if, updL_if, if_neg (by omega), if_neg (by omega)]
    exact ⟨rfl, rfl, fun j _ => by rw [if_neg (by omega)]⟩
  · unfold nR
    simp only [m_I_sI, m_L_sI, m_R_sI, m_AI_sI, m_AL_sI, m_AD_sI, m_AR_sI, m_n_sI, m_I_sL, m_L_sL, m_R_sL, m_AI_sL, m_AL_sL, m_AD_sL, m_AR_sL, m_n_sL, m_I_sR, m_L_sR, m_R_sR, m_AI_sR, m_AL_sR, m_AD_sR, m_AR_sR, m_n_sR, m_I_rI, m_L_rI, m_R_rI, m_AI_rI, m_AL_rI, m_AD_rI, m_AR_rI, m_n_rI, m_I_rL, m_L_rL, m_R_rL, m_AI_rL, m_AL_rL, m_AD_rL, m_AR_rL, m_n_rL, m_I_rD, m_L_rD, m_R_rD, m_AI_rD, m_AL_rD, m_AD_rD, m_AR_rD, m_n_rD, m_I_rR, m_L_rR, m_R_rR, m_AI_rR, m_AL_rR, m_AD_rR, m_AR_rR, m_n_rR, upd_if, updL_if, if_neg (show ¬ z = 301 * t + np by omega), true_and, and_true, and_false, false_and, and_self, if_true, if_false, ite_self, Nat.reduceEqDiff, reduceIte, obt, jlt, jbt, jbd_ite, bind_ite]
  · unfold nR
    simp only [m_I_sI, m_L_sI, m_R_sI, m_AI_sI, m_AL_sI, m_AD_sI, m_AR_sI, m_n_sI, m_I_sL, m_L_sL, m_R_sL, m_AI_sL, m_AL_sL, m_AD_sL, m_AR_sL, m_n_sL, m_I_sR, m_L_sR, m_R_sR, m_AI_sR, m_AL_sR, m_AD_sR, m_AR_sR, m_n_sR, m_I_rI, m_L_rI, m_R_rI, m_AI_rI, m_AL_rI, m_AD_rI, m_AR_rI, m_n_rI, m_I_rL, m_L_rL, m_R_rL, m_AI_rL, m_AL_rL, m_AD_rL, m_AR_rL, m_n_rL, m_I_rD, m_L_rD, m_R_rD, m_AI_rD, m_AL_rD, m_AD_rD, m_AR_rD, m_n_rD, m_I_rR, m_L_rR, m_R_rR, m_AI_rR, m_AL_rR, m_AD_rR, m_AR_rR, m_n_rR, upd_if, if_neg hs, true_and, and_true, and_false, false_and, and_self, if_true, if_false, ite_self, Nat.reduceEqDiff, reduceIte, obt, jlt, jbt, jbd_ite, bind_ite]
  · rw [hF.al (by unfold pTk; omega), hF.ai (by unfold pTk; omega)]
    unfold nC nR
    simp only [m_I_sI, m_L_sI, m_R_sI, m_AI_sI, m_AL_sI, m_AD_sI, m_AR_sI, m_n_sI, m_I_sL, m_L_sL, m_R_sL, m_AI_sL, m_AL_sL, m_AD_sL, m_AR_sL, m_n_sL, m_I_sR, m_L_sR, m_R_sR, m_AI_sR, m_AL_sR, m_AD_sR, m_AR_sR, m_n_sR, m_I_rI, m_L_rI, m_R_rI, m_AI_rI, m_AL_rI, m_AD_rI, m_AR_rI, m_n_rI, m_I_rL, m_L_rL, m_R_rL, m_AI_rL, m_AL_rL, m_AD_rL, m_AR_rL, m_n_rL, m_I_rD, m_L_rD, m_R_rD, m_AI_rD, m_AL_rD, m_AD_rD, m_AR_rD, m_n_rD, m_I_rR, m_L_rR, m_R_rR, m_AI_rR, m_AL_rR, m_AD_rR, m_AR_rR, m_n_rR, true_and, and_true, and_false, false_and, and_self, if_true, if_false, ite_self, Nat.reduceEqDiff, reduceIte, obt, jlt, jbt, jbd_ite, bind_ite]
    rw [if_neg (show ¬ T = 614 by omega), if_neg (show ¬ T = 616 by omega)]
    exact ⟨rfl, rfl⟩
/-- an inner is set -/
def sC (T p j : Nat) (x : Int32) (C : jM) : jM := jrI C (T + 3) (upd (jAI C (T + 3)) (3 * p + j) x)
def sR (t p a : Nat) (y : Int32) (R : jM) : jM := jrI R a (upd (jAI R a) (301 * t + p) y)
theorem sC_fr {T p j : Nat} {x : Int32} {C : jM} : Fr (pNc T) C (sC T p j x C) := (Fr.refl).rI (by unfold pNc; omega)
theorem sR_fr {t p a : Nat} {y : Int32} {R : jM} (ha : a = 2409 ∨ a = 2410 ∨ a = 2411) : Fr pNr R (sR t p a y R) := (Fr.refl).rI (by unfold pNr; omega)
theorem set_c {T np p j : Nat} {C : jM} (hC : Lay C) (hk : jK T = 6) (h45 : jI C 45 T = nI np) (hnp : np ≤ 300) (hp : p < np) (hj : j < 3) (x : Int32) : f_X8_setInner T (nI p) (nI j) x C = some (sC T p j x C) := by
  have kt := kd_text hk
  have hL6 := hC.2.2.2.1 T hk
  have hx : nI p * (3 : Int32) + nI j = nI (3 * p + j) := by
    have hm : nI p * (3 : Int32) = nI (3 * p) := by
      rw [i_eq, nI_toInt (by omega), i_mul (by rw [nI_toInt (by omega), show (3 : Int32).toInt = 3 from rfl]; omega) (by rw [nI_toInt (by omega), show (3 : Int32).toInt = 3 from rfl]; omega), nI_toInt (by omega), show (3 : Int32).toInt = 3 from rfl]; omega
    rw [hm, nJ_add (by omega)]
  have hA : jA (T + 3) 13 (nI (3 * p + j)) = true := jA_n kt.2.2.1.1 (by omega) (by omega)
  unfold f_X8_setInner sC
  rw [if_neg (nI_neg (by omega)), if_pos hk, h45, if_neg (by rw [nJ_le (by omega) (by omega)]; omega), if_neg (nI_neg (by omega)), if_neg (by rw [show (3 : Int32) = nI 3 from rfl, nJ_le (by omega) (by omega)]; omega), hL6.2.2.1, obt, hx, if_pos hA, jlt, nJ_cl (by omega)]
theorem set_m {T : Nat} {j x : Int32} {C : jM} : f_X8_setInner T (-1) j x C = some C := by
  unfold f_X8_setInner
  rw [if_pos (by decide)]
theorem St.set {T t np cn p j a : Nat} {x y : Int32} {C R : jM} (hk : jK T = 6) (hp : np ≤ p) (hp2 : p < 300) (hj : j < 3) (ha : a = 2409 ∨ a = 2410 ∨ a = 2411) : St T t np cn C R (sC T p j x C) (sR t p a y R) := by
  obtain ⟨⟨n1, n2, n3⟩, n4, n5, n6⟩ := t_616 hk
  refine ⟨sC_fr.mono (fun _ _ _ => pNc_C), (sR_fr ha).mono (fun _ _ _ => pNr_R), fun k hk => ?_, ⟨fun z hz => ?_, fun s hs => ?_⟩, fun i hi => ?_⟩
  · unfold sC
    simp only [m_I_sI, m_L_sI, m_R_sI, m_AI_sI, m_AL_sI, m_AD_sI, m_AR_sI, m_n_sI, m_I_sL, m_L_sL, m_R_sL, m_AI_sL, m_AL_sL, m_AD_sL, m_AR_sL, m_n_sL, m_I_sR, m_L_sR, m_R_sR, m_AI_sR, m_AL_sR, m_AD_sR, m_AR_sR, m_n_sR, m_I_rI, m_L_rI, m_R_rI, m_AI_rI, m_AL_rI, m_AD_rI, m_AR_rI, m_n_rI, m_I_rL, m_L_rL, m_R_rL, m_AI_rL, m_AL_rL, m_AD_rL, m_AR_rL, m_n_rL, m_I_rD, m_L_rD, m_R_rD, m_AI_rD, m_AL_rD, m_AD_rD, m_AR_rD, m_n_rD, m_I_rR, m_L_rR, m_R_rR, m_AI_rR, m_AL_rR, m_AD_rR, m_AR_rR, m_n_rR, true_and, and_true, and_false, false_and, and_self, if_true, if_false, ite_self, Nat.reduceEqDiff, reduceIte, obt, jlt, jbt, jbd_ite, bind_ite]
    rw [if_neg (by omega)]
    exact ⟨rfl, fun j' hj' => by rw [upd_if, if_neg (by omega)]⟩
  · unfold sR
    rcases ha with rfl | rfl | rfl <;> simp only [m_I_sI, m_L_sI, m_R_sI, m_AI_sI, m_AL_sI, m_AD_sI, m_AR_sI, m_n_sI, m_I_sL, m_L_sL, m_R_sL, m_AI_sL, m_AL_sL, m_AD_sL, m_AR_sL, m_n_sL, m_I_sR, m_L_sR, m_R_sR, m_AI_sR, m_AL_sR, m_AD_sR, m_AR_sR, m_n_sR, m_I_rI, m_L_rI, m_R_rI, m_AI_rI, m_AL_rI, m_AD_rI, m_AR_rI, m_n_rI, m_I_rL, m_L_rL, m_R_rL, m_AI_rL, m_AL_rL, m_AD_rL, m_AR_rL, m_n_rL, m_I_rD, m_L_rD, m_R_rD, m_AI_rD, m_AL_rD, m_AD_rD, m_AR_rD, m_n_rD, m_I_rR, m_L_rR, m_R_rR, m_AI_rR, m_AL_rR, m_AD_rR, m_AR_rR, m_n_rR, upd_if, if_neg (show ¬ z = 301 * t + p by omega), true_and, and_true, and_false, false_and, and_self, if_true, if_false, ite_self, Nat.reduceEqDiff, reduceIte, obt, jlt, jbt, jbd_ite, bind_ite]
  · unfold sR
    rcases ha with rfl | rfl | rfl <;> simp only [m_I_sI, m_L_sI, m_R_sI, m_AI_sI, m_AL_sI, m_AD_sI, m_AR_sI, m_n_sI, m_I_sL, m_L_sL, m_R_sL, m_AI_sL, m_AL_sL, m_AD_sL, m_AR_sL, m_n_sL, m_I_sR, m_L_sR, m_R_sR, m_AI_sR, m_AL_sR, m_AD_sR, m_AR_sR, m_n_sR, m_I_rI, m_L_rI, m_R_rI, m_AI_rI, m_AL_rI, m_AD_rI, m_AR_rI, m_n_rI, m_I_rL, m_L_rL, m_R_rL, m_AI_rL, m_AL_rL, m_AD_rL, m_AR_rL, m_n_rL, m_I_rD, m_L_rD, m_R_rD, m_AI_rD, m_AL_rD, m_AD_rD, m_AR_rD, m_n_rD, m_I_rR, m_L_rR, m_R_rR, m_AI_rR, m_AL_rR, m_AD_rR, m_AR_rR, m_n_rR, true_and, and_true, and_false, false_and, and_self, if_true, if_false, ite_self, Nat.reduceEqDiff, reduceIte, obt, jlt, jbt, jbd_ite, bind_ite]
  · unfold sC sR
    rcases ha with rfl | rfl | rfl <;> (simp only [m_I_sI, m_L_sI, m_R_sI, m_AI_sI, m_AL_sI, m_AD_sI, m_AR_sI, m_n_sI, m_I_sL, m_L_sL, m_R_sL, m_AI_sL, m_AL_sL, m_AD_sL, m_AR_sL, m_n_sL, m_I_sR, m_L_sR, m_R_sR, m_AI_sR, m_AL_sR, m_AD_sR, m_AR_sR, m_n_sR, m_I_rI, m_L_rI, m_R_rI, m_AI_rI, m_AL_rI, m_AD_rI, m_AR_rI, m_n_rI, m_I_rL, m_L_rL, m_R_rL, m_AI_rL, m_AL_rL, m_AD_rL, m_AR_rL, m_n_rL, m_I_rD, m_L_rD, m_R_rD, m_AI_rD, m_AL_rD, m_AD_rD, m_AR_rD, m_n_rD, m_I_rR, m_L_rR, m_R_rR, m_AI_rR, m_AL_rR, m_AD_rR, m_AR_rR, m_n_rR, true_and, and_true, and_false, false_and, and_self, if_true, if_false, ite_self, Nat.reduceEqDiff, reduceIte, obt, jlt, jbt, jbd_ite, bind_ite]; rw [if_neg (show ¬ T = 614 by omega)])
theorem St.setC {T t np cn p j : Nat} {x : Int32} {C R : jM} (hk : jK T = 6) (hp : np ≤ p) (hj : j < 3) : St T t np cn C R (sC T p j x C) R := by
  obtain ⟨⟨n1, n2, n3⟩, n4, n5, n6⟩ := t_616 hk
  refine ⟨sC_fr.mono (fun _ _ _ => pNc_C), Fr.refl, fun k hk => ?_, oR.refl, fun i hi => ?_⟩
  · unfold sC
    simp only [m_I_sI, m_L_sI, m_R_sI, m_AI_sI, m_AL_sI, m_AD_sI, m_AR_sI, m_n_sI, m_I_sL, m_L_sL, m_R_sL, m_AI_sL, m_AL_sL, m_AD_sL, m_AR_sL, m_n_sL, m_I_sR, m_L_sR, m_R_sR, m_AI_sR, m_AL_sR, m_AD_sR, m_AR_sR, m_n_sR, m_I_rI, m_L_rI, m_R_rI, m_AI_rI, m_AL_rI, m_AD_rI, m_AR_rI, m_n_rI, m_I_rL, m_L_rL, m_R_rL, m_AI_rL, m_AL_rL, m_AD_rL, m_AR_rL, m_n_rL, m_I_rD, m_L_rD, m_R_rD, m_AI_rD, m_AL_rD, m_AD_rD, m_AR_rD, m_n_rD, m_I_rR, m_L_rR, m_R_rR, m_AI_rR, m_AL_rR, m_AD_rR, m_AR_rR, m_n_rR, true_and, and_true, and_false, false_and, and_self, if_true, if_false, ite_self, Nat.reduceEqDiff, reduceIte, obt, jlt, jbt, jbd_ite, bind_ite]
    rw [if_neg (by omega)]
    exact ⟨rfl, fun j' hj' => by rw [upd_if, if_neg (by omega)]⟩
  · unfold sC
    simp only [m_I_sI, m_L_sI, m_R_sI, m_AI_sI, m_AL_sI, m_AD_sI, m_AR_sI, m_n_sI, m_I_sL, m_L_sL, m_R_sL, m_AI_sL, m_AL_sL, m_AD_sL, m_AR_sL, m_n_sL, m_I_sR, m_L_sR, m_R_sR, m_AI_sR, m_AL_sR, m_AD_sR, m_AR_sR, m_n_sR, m_I_rI, m_L_rI, m_R_rI, m_AI_rI, m_AL_rI, m_AD_rI, m_AR_rI, m_n_rI, m_I_rL, m_L_rL, m_R_rL, m_AI_rL, m_AL_rL, m_AD_rL, m_AR_rL, m_n_rL, m_I_rD, m_L_rD, m_R_rD, m_AI_rD, m_AL_rD, m_AD_rD, m_AR_rD, m_n_rD, m_I_rR, m_L_rR, m_R_rR, m_AI_rR, m_AL_rR, m_AD_rR, m_AR_rR, m_n_rR, true_and, and_true, and_false, false_and, and_self, if_true, if_false, ite_self, Nat.reduceEqDiff, reduceIte, obt, jlt, jbt, jbd_ite, bind_ite]; rw [if_neg (show ¬ T = 614 by omega)]
/-- a part with inners, and its node -/
theorem rK_in {C R : jM} {T t p : Nat} {kd : Int32} (h1 : jAI C (T + 1) p = kd) (h2 : jAI R 2408 (301 * t + p) = kmap kd) (ht : t < 33) (hn : kd ≠ 3 ∧ kd ≠ 4 ∧ kd ≠ 6 ∧ kd ≠ 7 ∧ kd ≠ 8)
    (hin : ∀ j, j < tar kd → ∃ i, i < 300 ∧ jAI C (T + 3) (3 * p + j) = nI i ∧ jAI R (2409 + j) (301 * t + p) = nI (301 * t + i)) (hout : ∀ j, tar kd ≤ j → j < 3 → jAI R (2409 + j) (301 * t + p) = -1) : rK C T R t p := by
  have key : ∀ j, j < 3 → (jAI R (2409 + j) (301 * t + p)).toInt = if j < tar kd then 301 * (t : Int) + (jAI C (T + 3) (3 * p + j)).toInt else -1 := by
    intro j hj
    by_cases c : j < tar kd
    · obtain ⟨i, i0, i1, i2⟩ := hin j c
      rw [if_pos c, i1, i2, nI_toInt (by omega), nI_toInt (by omega)]; omega
    · rw [if_neg c, hout j (by omega) hj]; rfl
  unfold rK
  rw [h1]
  refine ⟨h2, fun z => ?_, fun z => absurd z hn.2.1, fun z => absurd z hn.2.2.1, fun z => absurd z hn.2.2.2.1, fun _ _ _ => key 0 (by omega), key 1 (by omega), key 2 (by omega)⟩
  rcases z with z | z
  · exact absurd z hn.1
  · exact absurd z hn.2.2.2.2
theorem tT_in {C : jM} {T : Nat} {ru : Nat → Nat × Nat × Nat} {nr rs d : Nat} {A : Nat → Prop} {lo hi p : Nat} {kd : Int32} (h1 : jAI C (T + 1) p = kd) (hlo : lo ≤ p) (hhi : p < hi) (hk : tkind kd) (hn : kd ≠ 6 ∧ kd ≠ 7 ∧ kd ≠ 146) (hin : ∀ j, j < tar kd → ∃ i, jAI C (T + 3) (3 * p + j) = nI i ∧ tT C T ru nr rs d A lo hi i) : tT C T ru nr rs (d + 1) A lo hi p := by
  unfold tT tOK
  rw [h1]
  refine ⟨hlo, hhi, hk, fun j hj => ?_, fun z => absurd z hn.1, fun z => absurd z hn.2.1⟩
  obtain ⟨i, i1, i2⟩ := hin j hj
  exact ⟨i, i1, by rw [if_neg hn.2.2]; exact i2⟩

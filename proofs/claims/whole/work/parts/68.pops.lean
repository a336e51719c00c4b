/-! PURE: the parser: taking tokens, faults, parts -/
theorem PS.fr0 {B : Nat → Int32} {e N T t : Nat} {A : Nat → Prop} {np nr cn : Nat} {fl : Int32} {C R : jM} (h : PS B e N T t A np nr cn fl C R) : jI C 26 607 = fl ∧ jI R 101 2398 = fl := ⟨h.2.2.2.2.2.2.2.2.2.2.2.1, h.2.2.2.2.2.2.2.2.2.2.2.2.1⟩
theorem PS.pt {B : Nat → Int32} {e N T t : Nat} {A : Nat → Prop} {np nr cn : Nat} {fl : Int32} {C R : jM} (h : PS B e N T t A np nr cn fl C R) : PT B e N T t C R := h.1
theorem St.flt {T t np cn : Nat} {C R : jM} {c v : Int32} : St T t np cn C R (jsI (jsI C 26 607 c) 27 607 v) (jsI (jsI R 101 2398 c) 102 2398 v) :=
  ⟨((Fr.refl).sI (by unfold pPC; omega)).sI (by unfold pPC; omega), ((Fr.refl).sI (by unfold pPR; omega)).sI (by unfold pPR; omega), fun _ _ => ⟨rfl, rfl, fun _ _ => rfl⟩, ⟨fun _ _ => ⟨rfl, rfl, rfl, rfl, rfl, rfl⟩, fun _ _ => rfl⟩, fun _ _ => ⟨rfl, rfl, rfl, rfl⟩⟩
/-- a FAULT c at the token at hand: the class, and the reference -/
theorem ref_ok {B : Nat → Int32} {e N T t : Nat} {A : Nat → Prop} {np nr cn : Nat} {C R : jM} (h : PS B e N T t A np nr cn 0 C R) (c : Int32) {q : Nat} (hq : tokAt B e (tps B e q) C) : f_X4_refuse 607 c C = some (jsI (jsI C 26 607 c) 27 607 (nI (tps B e q))) := by
  unfold f_X4_refuse
  rw [if_pos k_607, h.fr0.1, if_pos rfl, jlt]
  simp only [ly_24 h.pt.1, k_608, m_I_sI, m_L_sI, m_R_sI, m_AI_sI, m_AL_sI, m_AD_sI, m_AR_sI, m_n_sI, m_I_sL, m_L_sL, m_R_sL, m_AI_sL, m_AL_sL, m_AD_sL, m_AR_sL, m_n_sL, m_I_sR, m_L_sR, m_R_sR, m_AI_sR, m_AL_sR, m_AD_sR, m_AR_sR, m_n_sR, m_I_rI, m_L_rI, m_R_rI, m_AI_rI, m_AL_rI, m_AD_rI, m_AR_rI, m_n_rI, m_I_rL, m_L_rL, m_R_rL, m_AI_rL, m_AL_rL, m_AD_rL, m_AR_rL, m_n_rL, m_I_rD, m_L_rD, m_R_rD, m_AI_rD, m_AL_rD, m_AD_rD, m_AR_rD, m_n_rD, m_I_rR, m_L_rR, m_R_rR, m_AI_rR, m_AL_rR, m_AD_rR, m_AR_rR, m_n_rR, hq.1, true_and, and_true, and_false, false_and, and_self, if_true, if_false, ite_self, Nat.reduceEqDiff, reduceIte, obt, jlt, jbt, jbd_ite, bind_ite]
theorem refused {B : Nat → Int32} {e N T t : Nat} {A : Nat → Prop} {np nr cn : Nat} {C R : jM} {fl : Int32} (h : PS B e N T t A np nr cn fl C R) (hf : fl ≠ 0) (c : Int32) : f_X4_refuse 607 c C = some C := by
  unfold f_X4_refuse
  rw [if_pos k_607, h.fr0.1, if_neg hf]
theorem fail_r {R : jM} (c v : Int32) (h : jI R 101 2398 = 0) : f_X12_fail 2398 c v R = some (jsI (jsI R 101 2398 c) 102 2398 v) := by
  unfold f_X12_fail
  rw [if_pos k_2398, h, if_pos rfl, jlt, jlt]
theorem now_r {B : Nat → Int32} {e N T t : Nat} {A : Nat → Prop} {np nr cn : Nat} {C R : jM} (h : PS B e N T t A np nr cn 0 C R) {q : Nat} (hq : jI R 100 2398 = nI q) (hq2 : q < 1602) (hE : entQ B e (tps B e q) q R) : f_X12_now 2398 R = some (tm (tkv B e (tps B e q)).1) := by
  unfold f_X12_now
  rw [if_pos k_2398, ly_95 h.pt.2.1, obt, hq, if_pos (qA hq2).1, (qA hq2).2.2.2.2, hE.1]
theorem wrong_ok {B : Nat → Int32} {e N T t : Nat} {A : Nat → Prop} {np nr cn : Nat} {C R : jM} (h : PS B e N T t A np nr cn 0 C R) : ∃ C' R' fl', f_X4_refuseToken 607 C = some C' ∧ f_X12_wrong 2398 R = some R' ∧ fl' ≠ 0 ∧ PS B e N T t A np nr cn fl' C' R' ∧ St T t np cn C R C' R' := by
  obtain ⟨q, q1, q2, q3, q4, q5, q6, q7, q8, q9, q10, q11⟩ := h.tk
  obtain ⟨a1, a2, a3, a4, a5⟩ := qA q2
  have hid : ∀ o : Option jM, (o.bind fun S1 => some S1) = o := fun o => by cases o <;> rfl
  have ec : f_X4_refuseToken 607 C = some (jsI (jsI C 26 607 (if (tkv B e (tps B e q)).1 = 1 then 1 else 2)) 27 607 (nI (tps B e q))) := by
    unfold f_X4_refuseToken f_X4_refuseToken_17
    rw [if_pos k_607, ly_24 h.pt.1, obt, if_pos k_608, if_pos k_607, if_pos k_607, hid, hid, q4.2.1]
    by_cases c : (tkv B e (tps B e q)).1 = 1
    · rw [if_pos c, if_pos c]; exact ref_ok h 1 q4
    · rw [if_neg c, if_neg c]; exact ref_ok h 2 q4
  have er : f_X12_wrong 2398 R = some (jsI (jsI R 101 2398 (if (tkv B e (tps B e q)).1 = 1 then 1 else 2)) 102 2398 (nI (tps B e q))) := by
    unfold f_X12_wrong f_X12_wrong_15
    rw [if_pos k_2398, now_r h q3 q2 q5, obt]
    simp only [tm_1 q7, k_2398, ly_96 h.pt.2.1, q3, a2, a5, q6, obt, if_true]
    by_cases c : (tkv B e (tps B e q)).1 = 1
    · rw [if_pos c, if_pos c, hid, fail_r _ _ h.fr0.2]
    · rw [if_neg c, if_neg c, hid, fail_r _ _ h.fr0.2]
  by_cases c : (tkv B e (tps B e q)).1 = 1
  · rw [if_pos c] at ec er
    exact ⟨_, _, 1, ec, er, by decide, h.flt (by decide), St.flt⟩
  · rw [if_neg c] at ec er
    exact ⟨_, _, 2, ec, er, by decide, h.flt (by decide), St.flt⟩
theorem fail4_ok {B : Nat → Int32} {e N T t : Nat} {A : Nat → Prop} {np nr cn : Nat} {C R : jM} (h : PS B e N T t A np nr cn 0 C R) {c : Int32} (hc : 1 ≤ c.toInt ∧ c.toInt ≤ 4) : ∃ C' R' q, f_X4_refuse 607 c C = some C' ∧ jI R 100 2398 = nI q ∧ jA 2405 13 (nI q) = true ∧ f_X12_fail 2398 c (jAI R 2405 (nI q).toNatClampNeg) R = some R' ∧ PS B e N T t A np nr cn c C' R' ∧ St T t np cn C R C' R' := by
  obtain ⟨q, q1, q2, q3, q4, q5, q6, q7, q8, q9, q10, q11⟩ := h.tk
  obtain ⟨a1, a2, a3, a4, a5⟩ := qA q2
  exact ⟨_, _, q, ref_ok h c q4, q3, a2, by rw [a5, q6]; exact fail_r _ _ h.fr0.2, h.flt hc, St.flt⟩
theorem St.adv {T t np cn q : Nat} {C R C' : jM} (hF : Fr pTk C C') : St T t np cn C R C' (jsI R 100 2398 (nI q)) :=
  ⟨hF.mono (fun _ _ _ => pTk_PC), (Fr.refl).sI (by unfold pPR; omega), fun k hk => ⟨by rw [hF.ai (by unfold pTk; omega)], by rw [hF.al (by unfold pTk; omega)], fun j hj => by rw [hF.ai (by unfold pTk; omega)]⟩, ⟨fun _ _ => ⟨rfl, rfl, rfl, rfl, rfl, rfl⟩, fun _ _ => rfl⟩, fun i hi => ⟨by rw [hF.al (by unfold pTk; omega)], by rw [hF.ai (by unfold pTk; omega)], rfl, rfl⟩⟩
theorem take_ok {B : Nat → Int32} {e N T t : Nat} {A : Nat → Prop} {np nr cn : Nat} {fl : Int32} {C R : jM} (h : PS B e N T t A np nr cn fl C R) {K km : Int32} (hK : K ∈ tks) (hm : tm K = km) (hK0 : K ≠ 0) (hK1 : K ≠ 1) : ∃ C' R' fl', f_X4_take 607 K C = some C' ∧ f_X12_want 2398 km R = some R' ∧ PS B e N T t A np nr cn fl' C' R' ∧ St T t np cn C R C' R' ∧ (fl' = 0 → fl = 0) := by
  by_cases cf : fl = 0
  · subst cf
    obtain ⟨q, q1, q2, q3, q4, q5, q6, q7, q8, q9, q10, q11⟩ := h.tk
    obtain ⟨a1, a2, a3, a4, a5⟩ := qA q2
    have hid : ∀ o : Option jM, (o.bind fun S1 => some S1) = o := fun o => by cases o <;> rfl
    have ec : f_X4_take 607 K C = if (tkv B e (tps B e q)).1 = K then f_X7_next_0 1100000 608 C else f_X4_refuseToken 607 C := by
      unfold f_X4_take
      simp only [k_607, h.fr0.1, ly_24 h.pt.1, k_608, q4.2.1, hid, obt, if_true]
    have er : f_X12_want 2398 km R = if (tkv B e (tps B e q)).1 = K then some (jsI R 100 2398 (nI (q + 1))) else f_X12_wrong 2398 R := by
      unfold f_X12_want
      simp only [k_2398, h.fr0.2, ly_95 h.pt.2.1, q3, a1, a5, q5.1, hid, obt, jlt, if_true, nJ_1 (show q + 1 < 2147483648 by omega)]
      by_cases c : (tkv B e (tps B e q)).1 = K
      · rw [if_pos c, if_pos (by rw [c]; exact hm)]
      · rw [if_neg c, if_neg (fun z => c (tm_inj _ q7 _ hK (z.trans hm.symm)))]
    rw [ec, er]
    by_cases c : (tkv B e (tps B e q)).1 = K
    · rw [if_pos c, if_pos c]
      obtain ⟨C', n1, n2, n3⟩ := h.adv q3 q2 (by rw [c]; exact hK0) (by rw [c]; exact hK1)
      exact ⟨C', _, 0, n1, rfl, n3, St.adv n2, fun _ => rfl⟩
    · rw [if_neg c, if_neg c]
      obtain ⟨C', R', fl', w1, w2, w3, w4, w5⟩ := wrong_ok h
      exact ⟨C', R', fl', w1, w2, w4, w5, fun z => absurd z w3⟩
  · refine ⟨C, R, fl, ?_, ?_, h, St.refl, fun z => z⟩
    · unfold f_X4_take
      rw [if_pos k_607, h.fr0.1, if_neg cf]
    · unfold f_X12_want
      rw [if_pos k_2398, h.fr0.2, if_neg cf]
theorem isN_ok {B : Nat → Int32} {e N T t : Nat} {A : Nat → Prop} {np nr cn : Nat} {fl : Int32} {C R : jM} (h : PS B e N T t A np nr cn fl C R) {K km : Int32} (hK : K ∈ tks) (hm : tm K = km) : ∃ b : Int32, (b = 0 ∨ b = 1) ∧ f_X4_isNext 607 K C = some b ∧ f_X12_is 2398 km R = some b ∧ (b = 1 → fl = 0 ∧ ∀ q, jI R 100 2398 = nI q → q < 1602 → tokAt B e (tps B e q) C → (tkv B e (tps B e q)).1 = K) := by
  by_cases cf : fl = 0
  · subst cf
    obtain ⟨q, q1, q2, q3, q4, q5, q6, q7, q8, q9, q10, q11⟩ := h.tk
    obtain ⟨a1, a2, a3, a4, a5⟩ := qA q2
    have ec : f_X4_isNext 607 K C = if (tkv B e (tps B e q)).1 = K then some 1 else some 0 := by
      unfold f_X4_isNext
      simp only [k_607, h.fr0.1, ly_24 h.pt.1, k_608, q4.2.1, obt, if_true]
    have er : f_X12_is 2398 km R = if (tkv B e (tps B e q)).1 = K then some 1 else some 0 := by
      unfold f_X12_is
      simp only [k_2398, h.fr0.2, ly_95 h.pt.2.1, q3, a1, a5, q5.1, obt, if_true]
      by_cases c : (tkv B e (tps B e q)).1 = K
      · rw [if_pos c, if_pos (by rw [c]; exact hm)]
      · rw [if_neg c, if_neg (fun z => c (tm_inj _ q7 _ hK (z.trans hm.symm)))]
    rw [ec, er]
    by_cases c : (tkv B e (tps B e q)).1 = K
    · rw [if_pos c]
      refine ⟨1, .inr rfl, rfl, rfl, fun _ => ⟨rfl, fun q' h1 h2 _ => ?_⟩⟩
      have z := h1.symm.trans q3
      rw [i_eq, nI_toInt (by omega), nI_toInt (by omega)] at z
      rw [show q' = q by omega]; exact c
    · rw [if_neg c]
      exact ⟨0, .inl rfl, rfl, rfl, fun z => absurd z (by decide)⟩
  · refine ⟨0, .inl rfl, ?_, ?_, fun z => absurd z (by decide)⟩
    · unfold f_X4_isNext
      rw [if_pos k_607, h.fr0.1, if_neg cf]
    · unfold f_X12_is
      rw [if_pos k_2398, h.fr0.2, if_neg cf]

/-! PURE: the evaluator: a case is begun -/
def pBg (F t f a : Nat) : Prop := (t = 2 ∧ (f = 64 ∨ f = 65) ∧ a = 811) ∨ (t = 0 ∧ a = 811 ∧ (f = 60 ∨ f = 62 ∨ f = 66 ∨ f = 67 ∨ f = 68)) ∨ (t = 0 ∧ a = F ∧ ((6 ≤ f ∧ f ≤ 11) ∨ f = 16)) ∨ (t = 3 ∧ (a = F + 1 ∨ (812 ≤ a ∧ a ≤ 815)))
def qBg (t f a : Nat) : Prop := (t = 0 ∧ a = 2398 ∧ (f = 92 ∨ (118 ≤ f ∧ f ≤ 127) ∨ f = 133)) ∨ (t = 3 ∧ a = 2420)
theorem Lay.frBg {F : Nat} {C C' : jM} (h : Lay C) (hF : isF F) (hC : Fr (pBg F) C C') : Lay C' := by
  unfold isF at hF
  refine h.fr hC (fun f a z => by unfold pBg at z; omega) (fun a z => ?_)
  have := k16 a
  unfold pBg at z
  omega
theorem Lay.frqBg {R R' : jM} (h : Lay R) (hR : Fr qBg R R') : Lay R' := h.fr hR (fun f a z => by unfold qBg at z; omega) (fun a z => by have := k16r a; unfold qBg at z; omega)
theorem fill_ok {a : Nat} (hk : jK a = 13) (hl : jLen a = 24) : ∀ (m fuel i : Nat) (S : jM), i + m = 24 → m < fuel → (∀ j, j < i → jAI S a j = -1) → ∃ S', f_J7_fill_53178_5 fuel a (-1) (nI i) (nI 24) S = some S' ∧ Fr (fun t f b => t = 3 ∧ f = f ∧ b = a) S S' ∧ ∀ j, j < 24 → jAI S' a j = -1 := by
  intro m
  induction m with
  | zero =>
    intro fuel i S h1 h2 h3
    obtain ⟨fuel, rfl⟩ : ∃ z, fuel = z + 1 := ⟨fuel - 1, by omega⟩
    refine ⟨S, ?_, Fr.refl, fun j hj => h3 j (by omega)⟩
    rw [f_J7_fill_53178_5, if_pos (by rw [nJ_le (by omega) (by omega)]; omega)]
  | succ m ih =>
    intro fuel i S h1 h2 h3
    obtain ⟨fuel, rfl⟩ : ∃ z, fuel = z + 1 := ⟨fuel - 1, by omega⟩
    have aa : jA a 13 (nI i) = true := jA_n hk (by rw [hl]; omega) (by omega)
    obtain ⟨S', g1, g2, g3⟩ := ih fuel (i + 1) (jrI S a (upd (jAI S a) i (-1))) (by omega) (by omega) (fun j hj => by
      simp only [m_I_sI, m_L_sI, m_R_sI, m_AI_sI, m_AL_sI, m_AD_sI, m_AR_sI, m_n_sI, m_I_sL, m_L_sL, m_R_sL, m_AI_sL, m_AL_sL, m_AD_sL, m_AR_sL, m_n_sL, m_I_sR, m_L_sR, m_R_sR, m_AI_sR, m_AL_sR, m_AD_sR, m_AR_sR, m_n_sR, m_I_rI, m_L_rI, m_R_rI, m_AI_rI, m_AL_rI, m_AD_rI, m_AR_rI, m_n_rI, m_I_rL, m_L_rL, m_R_rL, m_AI_rL, m_AL_rL, m_AD_rL, m_AR_rL, m_n_rL, m_I_rD, m_L_rD, m_R_rD, m_AI_rD, m_AL_rD, m_AD_rD, m_AR_rD, m_n_rD, m_I_rR, m_L_rR, m_R_rR, m_AI_rR, m_AL_rR, m_AD_rR, m_AR_rR, m_n_rR, upd_if, true_and, and_true, and_false, false_and, and_self, if_true, if_false, ite_self, Nat.reduceEqDiff, reduceIte, obt, jlt, jbt, jbd_ite, bind_ite]
      by_cases c : j = i
      · rw [if_pos c]
      · rw [if_neg c]; exact h3 j (by omega))
    refine ⟨S', ?_, ((Fr.refl).rI ⟨rfl, rfl, rfl⟩).trans g2, g3⟩
    rw [f_J7_fill_53178_5, if_neg (by rw [nJ_le (by omega) (by omega)]; omega), if_pos aa, nJ_cl (by omega), jlt, jlt, nJ_1 (by omega)]
    exact g1
theorem clear_ok {F : Nat} {S : jM} (hS : Lay S) (hF : isF F) : ∃ S', f_X1_clear F S = some S' ∧ Fr (fun t f a => (t = 0 ∧ a = F ∧ ((6 ≤ f ∧ f ≤ 11) ∨ f = 16)) ∨ (t = 3 ∧ a = F + 1)) S S' ∧ (jI S' 6 F = 0 ∧ jI S' 7 F = 0 ∧ jI S' 8 F = -1 ∧ jI S' 9 F = 0 ∧ jI S' 10 F = 0 ∧ jI S' 11 F = 0 ∧ jI S' 16 F = 0) ∧ ∀ j, j < 24 → jAI S' (F + 1) j = -1 := by
  obtain ⟨k1, -⟩ := kd_case hF.k
  obtain ⟨S', g1, g2, g3⟩ := fill_ok k1.1 k1.2 24 1100000 0 (jsI (jsI (jsI (jsI (jsI (jsI (jsI S 6 F 0) 7 F 0) 8 F (-1)) 9 F 0) 10 F 0) 11 F 0) 16 F 0) (by omega) (by omega) (fun j hj => absurd hj (by omega))
  have hf : Fr (fun t f a => (t = 0 ∧ a = F ∧ ((6 ≤ f ∧ f ≤ 11) ∨ f = 16)) ∨ (t = 3 ∧ a = F + 1)) S (jsI (jsI (jsI (jsI (jsI (jsI (jsI S 6 F 0) 7 F 0) 8 F (-1)) 9 F 0) 10 F 0) 11 F 0) 16 F 0) := (((((((Fr.refl).sI (by omega)).sI (by omega)).sI (by omega)).sI (by omega)).sI (by omega)).sI (by omega)).sI (by omega)
  have l12 : jR (jsI (jsI (jsI (jsI (jsI (jsI (jsI S 6 F 0) 7 F 0) 8 F (-1)) 9 F 0) 10 F 0) 11 F 0) 16 F 0) 12 F = some (F + 1) := (hS.2.2.2.2.2.1 F hF.k).1
  refine ⟨S', ?_, hf.trans (g2.mono (fun t f a z => by omega)), ⟨?_, ?_, ?_, ?_, ?_, ?_, ?_⟩, g3⟩
  · unfold f_X1_clear
    rw [if_pos hF.k, jlt, jlt, jlt, jlt, jlt, jlt, jlt, l12, obt]
    unfold f_J7_fill_53178
    rw [if_pos k1.1, k1.2, jlt]
    have e : f_J7_fill_53178_5 1100000 (F + 1) (-1) 0 (Int32.ofNat 24) (jsI (jsI (jsI (jsI (jsI (jsI (jsI S 6 F 0) 7 F 0) 8 F (-1)) 9 F 0) 10 F 0) 11 F 0) 16 F 0) = some S' := g1
    rw [e, obt]
  all_goals rw [g2.i (by omega)]; simp only [m_I_sI, m_L_sI, m_R_sI, m_AI_sI, m_AL_sI, m_AD_sI, m_AR_sI, m_n_sI, m_I_sL, m_L_sL, m_R_sL, m_AI_sL, m_AL_sL, m_AD_sL, m_AR_sL, m_n_sL, m_I_sR, m_L_sR, m_R_sR, m_AI_sR, m_AL_sR, m_AD_sR, m_AR_sR, m_n_sR, m_I_rI, m_L_rI, m_R_rI, m_AI_rI, m_AL_rI, m_AD_rI, m_AR_rI, m_n_rI, m_I_rL, m_L_rL, m_R_rL, m_AI_rL, m_AL_rL, m_AD_rL, m_AR_rL, m_n_rL, m_I_rD, m_L_rD, m_R_rD, m_AI_rD, m_AL_rD, m_AD_rD, m_AR_rD, m_n_rD, m_I_rR, m_L_rR, m_R_rR, m_AI_rR, m_AL_rR, m_AD_rR, m_AR_rR, m_n_rR, true_and, and_true, and_false, false_and, and_self, if_true, if_false, ite_self, Nat.reduceEqDiff, reduceIte, obt, jlt, jbt, jbd_ite, bind_ite]
theorem bc_ok {r : Nat} (hr : r < 24) : ∀ (m fuel i : Nat) (R : jM), Lay R → i + m = 24 → m < fuel → (∀ j, j < i → jAI R 2420 j = 0) → ∃ R', f_X12_beginCase_62 fuel 2398 (nI r) (nI i) R = f_X12_workRule (g_V 1000) 2398 (nI r) (jsI R' 122 2398 (nI r)) ∧ Fr (fun t f b => t = 3 ∧ f = f ∧ b = 2420) R R' ∧ ∀ j, j < 24 → jAI R' 2420 j = 0 := by
  intro m
  induction m with
  | zero =>
    intro fuel i R hR h1 h2 h3
    obtain ⟨fuel, rfl⟩ : ∃ z, fuel = z + 1 := ⟨fuel - 1, by omega⟩
    refine ⟨R, ?_, Fr.refl, fun j hj => h3 j (by omega)⟩
    rw [f_X12_beginCase_62, if_pos (by rw [show (24 : Int32) = nI 24 from rfl, nJ_le (by omega) (by omega)]; omega), if_pos k_2398, jlt, hjd]
  | succ m ih =>
    intro fuel i R hR h1 h2 h3
    obtain ⟨fuel, rfl⟩ : ∃ z, fuel = z + 1 := ⟨fuel - 1, by omega⟩
    have aa : jA 2420 13 (nI i) = true := jA_n k_2420 (by rw [ln_2420]; omega) (by omega)
    have hf : Fr (fun t f b => t = 3 ∧ f = f ∧ b = 2420) R (jrI R 2420 (upd (jAI R 2420) i 0)) := (Fr.refl).rI ⟨rfl, rfl, rfl⟩
    obtain ⟨R', g1, g2, g3⟩ := ih fuel (i + 1) (jrI R 2420 (upd (jAI R 2420) i 0)) (hR.frqBg (hf.mono (fun t f a z => by unfold qBg; omega))) (by omega) (by omega) (fun j hj => by
      simp only [m_I_sI, m_L_sI, m_R_sI, m_AI_sI, m_AL_sI, m_AD_sI, m_AR_sI, m_n_sI, m_I_sL, m_L_sL, m_R_sL, m_AI_sL, m_AL_sL, m_AD_sL, m_AR_sL, m_n_sL, m_I_sR, m_L_sR, m_R_sR, m_AI_sR, m_AL_sR, m_AD_sR, m_AR_sR, m_n_sR, m_I_rI, m_L_rI, m_R_rI, m_AI_rI, m_AL_rI, m_AD_rI, m_AR_rI, m_n_rI, m_I_rL, m_L_rL, m_R_rL, m_AI_rL, m_AL_rL, m_AD_rL, m_AR_rL, m_n_rL, m_I_rD, m_L_rD, m_R_rD, m_AI_rD, m_AL_rD, m_AD_rD, m_AR_rD, m_n_rD, m_I_rR, m_L_rR, m_R_rR, m_AI_rR, m_AL_rR, m_AD_rR, m_AR_rR, m_n_rR, upd_if, true_and, and_true, and_false, false_and, and_self, if_true, if_false, ite_self, Nat.reduceEqDiff, reduceIte, obt, jlt, jbt, jbd_ite, bind_ite]
      by_cases c : j = i
      · rw [if_pos c]
      · rw [if_neg c]; exact h3 j (by omega))
    refine ⟨R', ?_, hf.trans g2, g3⟩
    rw [f_X12_beginCase_62, if_neg (by rw [show (24 : Int32) = nI 24 from rfl, nJ_le (by omega) (by omega)]; omega), if_pos k_2398, ly_128 hR, obt, if_pos aa, nJ_cl (by omega), jlt, jlt, nJ_1 (by omega)]
    exact g1
theorem wl_ok {F r : Nat} (hF : isF F) : ∀ (j fuel i : Nat) (S S' : jM), it F j S = some S' → jI S' 60 811 = nI 0 → j < fuel → i + j < 1000000 → f_X10_work_109 fuel 811 (nI r) (nI i) S = f_X10_work_150 811 (nI r) S' := by
  intro j
  induction j with
  | zero =>
    intro fuel i S S' h h60 h2 h3
    obtain ⟨fuel, rfl⟩ : ∃ z, fuel = z + 1 := ⟨fuel - 1, by omega⟩
    have e : S = S' := by
      have h' : some S = some S' := h
      injection h'
    subst e
    rw [f_X10_work_109, if_neg (by rw [show (1000000 : Int32) = nI 1000000 from rfl, nJ_le (by omega) (by omega)]; omega), if_pos k_811, if_pos (by rw [h60]; decide)]
  | succ j ih =>
    intro fuel i S S' h h60 h2 h3
    obtain ⟨fuel, rfl⟩ : ∃ z, fuel = z + 1 := ⟨fuel - 1, by omega⟩
    unfold it at h
    by_cases c : 0 < (jI S 60 811).toInt
    · rw [if_pos c] at h
      cases hs : stp F S with
      | none => rw [hs] at h; exact nomatch h
      | some S1 =>
        rw [hs, obt] at h
        have n60 : ¬ jI S 60 811 ≤ 0 := by rw [i_le, t_0]; omega
        unfold stp at hs
        by_cases c64 : jR S 64 811 = some F
        · rw [if_pos c64] at hs
          rw [f_X10_work_109, if_neg (by rw [show (1000000 : Int32) = nI 1000000 from rfl, nJ_le (by omega) (by omega)]; omega), if_pos k_811, if_neg n60, c64, obt, if_pos hF.k]
          have e144 : f_X10_work_144 (f_X10_work_109 fuel) 811 (nI r) (nI i) S1 = f_X10_work_150 811 (nI r) S' := by
            unfold f_X10_work_144
            rw [jlt, nJ_1 (by omega)]
            exact ih fuel (i + 1) S1 S' h h60 (by omega) (by omega)
          by_cases c7 : jI S 7 F = 0
          · rw [if_pos c7] at hs ⊢
            rw [hs, obt, e144]
          · rw [if_neg c7] at hs ⊢
            rw [hs, obt, e144]
        · rw [if_neg c64] at hs; exact nomatch hs
    · rw [if_neg c] at h; exact nomatch h
theorem work_beg {C : jM} {F : Nat} (hC : Lay C) (hF : isF F) (o : Option Nat) (v : Int64) (who due day : Int32) : ∃ Cf, Fr (pBg F) C Cf ∧ (jR Cf 64 811 = some F ∧ jR Cf 65 811 = o ∧ jI Cf 66 811 = who ∧ jI Cf 67 811 = due ∧ jI Cf 68 811 = day) ∧ (jI Cf 6 F = 0 ∧ jI Cf 7 F = 0 ∧ jI Cf 8 F = -1 ∧ jI Cf 9 F = 0 ∧ jI Cf 10 F = 0 ∧ jI Cf 11 F = 0 ∧ jI Cf 16 F = 0) ∧ (∀ j, j < 24 → jAI Cf (F + 1) j = -1) ∧
    f_X10_work 811 F o v who due day C = if o.isNone = true then f_X10_work_54 811 (-1 : Int32) Cf else o.bind (fun r57 => if jK r57 = 6 then (f_X8_ruleNamed r57 v Cf).bind (fun x59 => f_X10_work_54 811 x59 Cf) else none) := by
  have hFn := hF.n
  have hf0 : Fr (pBg F) C (jsI (jsI (jsI (jsR (jsR C 64 811 (some F)) 65 811 o) 66 811 who) 67 811 due) 68 811 day) := (((((Fr.refl).sR (by unfold pBg; omega)).sR (by unfold pBg; omega)).sI (by unfold pBg; omega)).sI (by unfold pBg; omega)).sI (by unfold pBg; omega)
  obtain ⟨Cf, g1, g2, g3, g4⟩ := clear_ok (hC.frBg hF hf0) hF
  have e65 : jR Cf 65 811 = o := by rw [g2.r (by omega)]; simp only [m_I_sI, m_L_sI, m_R_sI, m_AI_sI, m_AL_sI, m_AD_sI, m_AR_sI, m_n_sI, m_I_sL, m_L_sL, m_R_sL, m_AI_sL, m_AL_sL, m_AD_sL, m_AR_sL, m_n_sL, m_I_sR, m_L_sR, m_R_sR, m_AI_sR, m_AL_sR, m_AD_sR, m_AR_sR, m_n_sR, m_I_rI, m_L_rI, m_R_rI, m_AI_rI, m_AL_rI, m_AD_rI, m_AR_rI, m_n_rI, m_I_rL, m_L_rL, m_R_rL, m_AI_rL, m_AL_rL, m_AD_rL, m_AR_rL, m_n_rL, m_I_rD, m_L_rD, m_R_rD, m_AI_rD, m_AL_rD, m_AD_rD, m_AR_rD, m_n_rD, m_I_rR, m_L_rR, m_R_rR, m_AI_rR, m_AL_rR, m_AD_rR, m_AR_rR, m_n_rR, true_and, and_true, and_false, false_and, and_self, if_true, if_false, ite_self, Nat.reduceEqDiff, reduceIte, obt, jlt, jbt, jbd_ite, bind_ite]
  refine ⟨Cf, hf0.trans (g2.mono (fun t f a z => by unfold pBg; omega)), ⟨?_, e65, ?_, ?_, ?_⟩, g3, g4, ?_⟩
  · rw [g2.r (by omega)]; simp only [m_I_sI, m_L_sI, m_R_sI, m_AI_sI, m_AL_sI, m_AD_sI, m_AR_sI, m_n_sI, m_I_sL, m_L_sL, m_R_sL, m_AI_sL, m_AL_sL, m_AD_sL, m_AR_sL, m_n_sL, m_I_sR, m_L_sR, m_R_sR, m_AI_sR, m_AL_sR, m_AD_sR, m_AR_sR, m_n_sR, m_I_rI, m_L_rI, m_R_rI, m_AI_rI, m_AL_rI, m_AD_rI, m_AR_rI, m_n_rI, m_I_rL, m_L_rL, m_R_rL, m_AI_rL, m_AL_rL, m_AD_rL, m_AR_rL, m_n_rL, m_I_rD, m_L_rD, m_R_rD, m_AI_rD, m_AL_rD, m_AD_rD, m_AR_rD, m_n_rD, m_I_rR, m_L_rR, m_R_rR, m_AI_rR, m_AL_rR, m_AD_rR, m_AR_rR, m_n_rR, true_and, and_true, and_false, false_and, and_self, if_true, if_false, ite_self, Nat.reduceEqDiff, reduceIte, obt, jlt, jbt, jbd_ite, bind_ite]
  · rw [g2.i (by omega)]; simp only [m_I_sI, m_L_sI, m_R_sI, m_AI_sI, m_AL_sI, m_AD_sI, m_AR_sI, m_n_sI, m_I_sL, m_L_sL, m_R_sL, m_AI_sL, m_AL_sL, m_AD_sL, m_AR_sL, m_n_sL, m_I_sR, m_L_sR, m_R_sR, m_AI_sR, m_AL_sR, m_AD_sR, m_AR_sR, m_n_sR, m_I_rI, m_L_rI, m_R_rI, m_AI_rI, m_AL_rI, m_AD_rI, m_AR_rI, m_n_rI, m_I_rL, m_L_rL, m_R_rL, m_AI_rL, m_AL_rL, m_AD_rL, m_AR_rL, m_n_rL, m_I_rD, m_L_rD, m_R_rD, m_AI_rD, m_AL_rD, m_AD_rD, m_AR_rD, m_n_rD, m_I_rR, m_L_rR, m_R_rR, m_AI_rR, m_AL_rR, m_AD_rR, m_AR_rR, m_n_rR, true_and, and_true, and_false, false_and, and_self, if_true, if_false, ite_self, Nat.reduceEqDiff, reduceIte, obt, jlt, jbt, jbd_ite, bind_ite]
  · rw [g2.i (by omega)]; simp only [m_I_sI, m_L_sI, m_R_sI, m_AI_sI, m_AL_sI, m_AD_sI, m_AR_sI, m_n_sI, m_I_sL, m_L_sL, m_R_sL, m_AI_sL, m_AL_sL, m_AD_sL, m_AR_sL, m_n_sL, m_I_sR, m_L_sR, m_R_sR, m_AI_sR, m_AL_sR, m_AD_sR, m_AR_sR, m_n_sR, m_I_rI, m_L_rI, m_R_rI, m_AI_rI, m_AL_rI, m_AD_rI, m_AR_rI, m_n_rI, m_I_rL, m_L_rL, m_R_rL, m_AI_rL, m_AL_rL, m_AD_rL, m_AR_rL, m_n_rL, m_I_rD, m_L_rD, m_R_rD, m_AI_rD, m_AL_rD, m_AD_rD, m_AR_rD, m_n_rD, m_I_rR, m_L_rR, m_R_rR, m_AI_rR, m_AL_rR, m_AD_rR, m_AR_rR, m_n_rR, true_and, and_true, and_false, false_and, and_self, if_true, if_false, ite_self, Nat.reduceEqDiff, reduceIte, obt, jlt, jbt, jbd_ite, bind_ite]
  · rw [g2.i (by omega)]; simp only [m_I_sI, m_L_sI, m_R_sI, m_AI_sI, m_AL_sI, m_AD_sI, m_AR_sI, m_n_sI, m_I_sL, m_L_sL, m_R_sL, m_AI_sL, m_AL_sL, m_AD_sL, m_AR_sL, m_n_sL, m_I_sR, m_L_sR, m_R_sR, m_AI_sR, m_AL_sR, m_AD_sR, m_AR_sR, m_n_sR, m_I_rI, m_L_rI, m_R_rI, m_AI_rI, m_AL_rI, m_AD_rI, m_AR_rI, m_n_rI, m_I_rL, m_L_rL, m_R_rL, m_AI_rL, m_AL_rL, m_AD_rL, m_AR_rL, m_n_rL, m_I_rD, m_L_rD, m_R_rD, m_AI_rD, m_AL_rD, m_AD_rD, m_AR_rD, m_n_rD, m_I_rR, m_L_rR, m_R_rR, m_AI_rR, m_AL_rR, m_AD_rR, m_AR_rR, m_n_rR, true_and, and_true, and_false, false_and, and_self, if_true, if_false, ite_self, Nat.reduceEqDiff, reduceIte, obt, jlt, jbt, jbd_ite, bind_ite]
  · have e64 : jR (jsI (jsI (jsI (jsR (jsR C 64 811 (some F)) 65 811 o) 66 811 who) 67 811 due) 68 811 day) 64 811 = some F := by simp only [m_I_sI, m_L_sI, m_R_sI, m_AI_sI, m_AL_sI, m_AD_sI, m_AR_sI, m_n_sI, m_I_sL, m_L_sL, m_R_sL, m_AI_sL, m_AL_sL, m_AD_sL, m_AR_sL, m_n_sL, m_I_sR, m_L_sR, m_R_sR, m_AI_sR, m_AL_sR, m_AD_sR, m_AR_sR, m_n_sR, m_I_rI, m_L_rI, m_R_rI, m_AI_rI, m_AL_rI, m_AD_rI, m_AR_rI, m_n_rI, m_I_rL, m_L_rL, m_R_rL, m_AI_rL, m_AL_rL, m_AD_rL, m_AR_rL, m_n_rL, m_I_rD, m_L_rD, m_R_rD, m_AI_rD, m_AL_rD, m_AD_rD, m_AR_rD, m_n_rD, m_I_rR, m_L_rR, m_R_rR, m_AI_rR, m_AL_rR, m_AD_rR, m_AR_rR, m_n_rR, true_and, and_true, and_false, false_and, and_self, if_true, if_false, ite_self, Nat.reduceEqDiff, reduceIte, obt, jlt, jbt, jbd_ite, bind_ite]
    unfold f_X10_work
    rw [if_pos k_811, jlt, jlt, jlt, jlt, jlt, e64, obt, if_pos hF.k, g1, obt, e65]
theorem cw_0 {g : Nat → Int32} {n : Nat} (h : ∀ i, i < n → g i = -1) : cw g n = 0 := by
  induction n with
  | zero => rfl
  | succ n ih => unfold cw; rw [ih (fun i hi => h i (by omega)), h n (by omega), if_pos rfl]

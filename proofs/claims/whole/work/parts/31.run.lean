/-! PURE: run -/
def cntA (f : Nat → Int32) (mo : Int32) : Nat → Nat
  | 0 => 0
  | n + 1 => cntA f mo n + if (f n).toInt ≤ mo.toInt then 1 else 0
theorem cntA_le {f : Nat → Int32} {mo : Int32} : ∀ n, cntA f mo n ≤ n
  | 0 => Nat.le_refl 0
  | n + 1 => by have := cntA_le (f := f) (mo := mo) n; unfold cntA; split <;> omega
def pG (t f a : Nat) : Prop := (t = 0 ∧ f = 86 ∧ a = 0) ∨ (t = 3 ∧ a = 2397)
def qG (t f a : Nat) : Prop := (t = 0 ∧ f = 167 ∧ a = 2398) ∨ (t = 3 ∧ a = 2444)
theorem begin_loop {mo : Int32} {F : Nat → Int32} {n : Nat} (hn6 : n ≤ 6) : ∀ (k fuel : Nat) (C R : jM) (i : Int32), k < fuel → i.toInt = (n : Int) - k → k ≤ n → Lay C → Lay R → (jI C 79 0).toInt = n → jI C 79 0 = jI R 160 2398 →
    (∀ j : Nat, j < n → jI C 2 (2178 + 3 * j) = F j ∧ jAI R 2440 j = F j) → jI C 86 0 = jI R 167 2398 → (jI C 86 0).toInt = cntA F mo (n - k) → (∀ j : Nat, j < cntA F mo (n - k) → jAI C 2397 j = jAI R 2444 j ∧ 0 ≤ (jAI C 2397 j).toInt ∧ (jAI C 2397 j).toInt < n) →
    ∃ C' R' : jM, f_X11_beginRun_17 fuel 0 mo i C = some C' ∧ f_X12_run_116 fuel 2398 mo i R = some (jI R' 167 2398, R') ∧ Fr pG C C' ∧ Fr qG R R' ∧ jI C' 86 0 = jI R' 167 2398 ∧ (jI C' 86 0).toInt = cntA F mo n ∧ ∀ j : Nat, j < cntA F mo n → jAI C' 2397 j = jAI R' 2444 j ∧ 0 ≤ (jAI C' 2397 j).toInt ∧ (jAI C' 2397 j).toInt < n := by
  intro k
  induction k with
  | zero =>
    intro fuel C R i hf hi hk hC hR hN hNR hF h86 hc hr
    obtain ⟨q, rfl⟩ : ∃ q, fuel = q + 1 := ⟨fuel - 1, by omega⟩
    unfold f_X11_beginRun_17 f_X12_run_116
    have hle : jI C 79 0 ≤ i := by rw [i_le]; omega
    simp only [k_0, k_2398, ← hNR, if_pos hle, if_true]
    exact ⟨C, R, rfl, rfl, Fr.refl, Fr.refl, h86, hc, hr⟩
  | succ k ih =>
    intro fuel C R i hf hi hk hC hR hN hNR hF h86 hc hr
    obtain ⟨q, rfl⟩ : ∃ q, fuel = q + 1 := ⟨fuel - 1, by omega⟩
    obtain ⟨a, ha⟩ : ∃ a : Nat, (a : Int) = i.toInt := ⟨i.toInt.toNat, by omega⟩
    have hcl : i.toNatClampNeg = a := by rw [i_cl]; omega
    have hkn := kf_award (show a < 6 by omega)
    obtain ⟨f1, f2⟩ := hF a (by omega)
    have hle : ¬ jI C 79 0 ≤ i := by rw [i_le]; omega
    have hA1 : jA 2177 16 i = true := jA_iff.mpr ⟨k_2177, by omega, by rw [ln_2177]; omega⟩
    have hA2 : jA 2440 13 i = true := jA_iff.mpr ⟨k_2440, by omega, by rw [ln_2440]; omega⟩
    have hcn := cntA_le (f := F) (mo := mo) (n - (k + 1))
    have hst : cntA F mo (n - k) = cntA F mo (n - (k + 1)) + if (F a).toInt ≤ mo.toInt then 1 else 0 := by
      rw [show n - k = a + 1 from by omega, show n - (k + 1) = a from by omega]
      rfl
    have hi1 : (i + 1).toInt = (n : Int) - k := by rw [i_add1 (by omega)]; omega
    unfold f_X11_beginRun_17 f_X12_run_116 f_X11_beginRun_55 f_X12_run_154
    by_cases c : mo.toInt < (F a).toInt
    · rw [if_neg (by omega)] at hst
      have cm : mo < F a := by rw [i_lt]; exact c
      obtain ⟨C', R', g⟩ := ih q C R (i + 1) (by omega) hi1 (by omega) hC hR hN hNR hF h86 (by rw [hc, hst]; rfl) (by rw [hst]; exact hr)
      simp only [ly_78 hC, ly_159 hR, k_0, k_2398, ← hNR, if_neg hle, hcl, ly_aw hC (show a < 6 by omega), hkn, hA1, hA2, f1, f2, if_pos cm, true_and, and_true, and_false, false_and, and_self, if_true, if_false, ite_self, Nat.reduceEqDiff, reduceIte, Option.bind_some, jlet, jbd_some, jbd_ite, bind_ite]
      exact ⟨C', R', g⟩
    · rw [if_pos (by omega)] at hst
      have cm : ¬ mo < F a := by rw [i_lt]; exact c
      have hA3 : jA 2397 13 (jI C 86 0) = true := jA_iff.mpr ⟨k_2397, by omega, by rw [ln_2397]; omega⟩
      have hA4 : jA 2444 13 (jI C 86 0) = true := jA_iff.mpr ⟨k_2444, by omega, by rw [ln_2444]; omega⟩
      have hnn : (jI C 86 0 + 1).toInt = (jI C 86 0).toInt + 1 := i_add1 (by omega)
      have fC : Fr pG C (jrI (jsI C 86 0 (jI C 86 0 + 1)) 2397 (upd (jAI C 2397) (jI C 86 0).toNatClampNeg i)) := ((Fr.refl).sI (by unfold pG; omega)).rI (by unfold pG; omega)
      have fR : Fr qG R (jsI (jrI R 2444 (upd (jAI R 2444) (jI C 86 0).toNatClampNeg i)) 167 2398 (jI C 86 0 + 1)) := ((Fr.refl).rI (by unfold qG; omega)).sI (by unfold qG; omega)
      obtain ⟨C', R', g1, g2, g3, g4, g5⟩ := ih q (jrI (jsI C 86 0 (jI C 86 0 + 1)) 2397 (upd (jAI C 2397) (jI C 86 0).toNatClampNeg i)) (jsI (jrI R 2444 (upd (jAI R 2444) (jI C 86 0).toNatClampNeg i)) 167 2398 (jI C 86 0 + 1)) (i + 1) (by omega) hi1 (by omega) (hC.fr fC (fun f a z => by unfold pG at z; omega) (fun a z => by have := k16 a; unfold pG at z; omega)) (hR.fr fR (fun f a z => by unfold qG at z; omega) (fun a z => by have := k16r a; unfold qG at z; omega)) hN hNR hF rfl (by simp only [m_I_sI, m_L_sI, m_R_sI, m_AI_sI, m_AL_sI, m_AD_sI, m_AR_sI, m_n_sI, m_I_sL, m_L_sL, m_R_sL, m_AI_sL, m_AL_sL, m_AD_sL, m_AR_sL, m_n_sL, m_I_sR, m_L_sR, m_R_sR, m_AI_sR, m_AL_sR, m_AD_sR, m_AR_sR, m_n_sR, m_I_rI, m_L_rI, m_R_rI, m_AI_rI, m_AL_rI, m_AD_rI, m_AR_rI, m_n_rI, m_I_rL, m_L_rL, m_R_rL, m_AI_rL, m_AL_rL, m_AD_rL, m_AR_rL, m_n_rL, m_I_rD, m_L_rD, m_R_rD, m_AI_rD, m_AL_rD, m_AD_rD, m_AR_rD, m_n_rD, m_I_rR, m_L_rR, m_R_rR, m_AI_rR, m_AL_rR, m_AD_rR, m_AR_rR, m_n_rR, true_and, and_true, and_false, false_and, and_self, if_true, if_false, ite_self, Nat.reduceEqDiff, reduceIte, Option.bind_some, jlet, jbd_some, jbd_ite, bind_ite, hnn]; omega) (fun j hj => by
        simp only [m_I_sI, m_L_sI, m_R_sI, m_AI_sI, m_AL_sI, m_AD_sI, m_AR_sI, m_n_sI, m_I_sL, m_L_sL, m_R_sL, m_AI_sL, m_AL_sL, m_AD_sL, m_AR_sL, m_n_sL, m_I_sR, m_L_sR, m_R_sR, m_AI_sR, m_AL_sR, m_AD_sR, m_AR_sR, m_n_sR, m_I_rI, m_L_rI, m_R_rI, m_AI_rI, m_AL_rI, m_AD_rI, m_AR_rI, m_n_rI, m_I_rL, m_L_rL, m_R_rL, m_AI_rL, m_AL_rL, m_AD_rL, m_AR_rL, m_n_rL, m_I_rD, m_L_rD, m_R_rD, m_AI_rD, m_AL_rD, m_AD_rD, m_AR_rD, m_n_rD, m_I_rR, m_L_rR, m_R_rR, m_AI_rR, m_AL_rR, m_AD_rR, m_AR_rR, m_n_rR, true_and, and_true, and_false, false_and, and_self, if_true, if_false, ite_self, Nat.reduceEqDiff, reduceIte, Option.bind_some, jlet, jbd_some, jbd_ite, bind_ite, upd_if]
        by_cases e : j = (jI C 86 0).toNatClampNeg
        · rw [if_pos e, if_pos e]; exact ⟨rfl, by omega, by omega⟩
        · rw [if_neg e, if_neg e]; rw [i_cl] at e; exact hr j (by omega))
      simp only [ly_78 hC, ly_85 hC, ly_159 hR, ly_166 hR, k_0, k_2398, ← hNR, ← h86, if_neg hle, hcl, ly_aw hC (show a < 6 by omega), hkn, hA1, hA2, hA3, hA4, f1, f2, if_neg cm, m_I_sI, m_L_sI, m_R_sI, m_AI_sI, m_AL_sI, m_AD_sI, m_AR_sI, m_n_sI, m_I_sL, m_L_sL, m_R_sL, m_AI_sL, m_AL_sL, m_AD_sL, m_AR_sL, m_n_sL, m_I_sR, m_L_sR, m_R_sR, m_AI_sR, m_AL_sR, m_AD_sR, m_AR_sR, m_n_sR, m_I_rI, m_L_rI, m_R_rI, m_AI_rI, m_AL_rI, m_AD_rI, m_AR_rI, m_n_rI, m_I_rL, m_L_rL, m_R_rL, m_AI_rL, m_AL_rL, m_AD_rL, m_AR_rL, m_n_rL, m_I_rD, m_L_rD, m_R_rD, m_AI_rD, m_AL_rD, m_AD_rD, m_AR_rD, m_n_rD, m_I_rR, m_L_rR, m_R_rR, m_AI_rR, m_AL_rR, m_AD_rR, m_AR_rR, m_n_rR, true_and, and_true, and_false, false_and, and_self, if_true, if_false, ite_self, Nat.reduceEqDiff, reduceIte, Option.bind_some, jlet, jbd_some, jbd_ite, bind_ite]
      exact ⟨C', R', g1, g2, fC.trans g3, fR.trans g4, g5⟩

/-! PURE: run -/
def cntA (f : Nat → Int32) (mo : Int32) : Nat → Nat
  | 0 => 0
  | n + 1 => cntA f mo n + if (f n).toInt ≤ mo.toInt then 1 else 0
theorem cntA_le {f : Nat → Int32} {mo : Int32} : ∀ n, cntA f mo n ≤ n
  | 0 => Nat.le_refl 0
  | n + 1 => by have := cntA_le (f := f) (mo := mo) n; unfold cntA; split <;> omega
def pG (t f a : Nat) : Prop := (t = 0 ∧ f = 86 ∧ a = 0) ∨ (t = 3 ∧ a = 2397)
def qG (t f a : Nat) : Prop := (t = 0 ∧ f = 167 ∧ a = 2398) ∨ (t = 3 ∧ a = 2444)
theorem begin_loop {mo : Int32} {F : Nat → Int32} {n : Nat} (hn6 : n ≤ 6) : ∀ (k fuel : Nat) (C R : jM) (i : Int32), k < fuel → i.toInt = (n : Int) - k → k ≤ n → Lay C → Lay R → (jI C 79 0).toInt = n → jI C 79 0 = jI R 160 2398 →
    (∀ j : Nat, j < n → jI C 2 (2178 + 3 * j) = F j ∧ jAI R 2440 j = F j) → jI C 86 0 = jI R 167 2398 → (jI C 86 0).toInt = cntA F mo (n - k) → (∀ j : Nat, j < cntA F mo (n - k) → jAI C 2397 j = jAI R 2444 j ∧ 0 ≤ (jAI C 2397 j).toInt ∧ (jAI C 2397 j).toInt < n) →
    ∃ C' R' : jM, f_X11_beginRun_17 fuel 0 mo i C = some C' ∧ f_X12_run_116 fuel 2398 mo i R = some (jI R' 167 2398, R') ∧ Fr pG C C' ∧ Fr qG R R' ∧ jI C' 86 0 = jI R' 167 2398 ∧ (jI C' 86 0).toInt = cntA F mo n ∧ ∀ j : Nat, j < cntA F mo n → jAI C' 2397 j = jAI R' 2444 j ∧ 0 ≤ (jAI C' 2397 j).toInt ∧ (jAI C' 2397 j).toInt < n := by
  intro k
  induction k with
  | zero =>
    intro fuel C R i hf hi hk hC hR hN hNR hF h86 hc hr
    obtain ⟨q, rfl⟩ : ∃ q, fuel = q + 1 := ⟨fuel - 1, by omega⟩
    unfold f_X11_beginRun_17 f_X12_run_116
    have hle : jI C 79 0 ≤ i := by rw [i_le]; omega
    simp only [k_0, k_2398, ← hNR, if_pos hle, if_true]
    exact ⟨C, R, rfl, rfl, Fr.refl, Fr.refl, h86, hc, hr⟩
  | succ k ih =>
    intro fuel C R i hf hi hk hC hR hN hNR hF h86 hc hr
    obtain ⟨q, rfl⟩ : ∃ q, fuel = q + 1 := ⟨fuel - 1, by omega⟩
    obtain ⟨a, ha⟩ : ∃ a : Nat, (a : Int) = i.toInt := ⟨i.toInt.toNat, by omega⟩
    have hcl : i.toNatClampNeg = a := by rw [i_cl]; omega
    have hkn := kf_award (show a < 6 by omega)
    obtain ⟨f1, f2⟩ := hF a (by omega)
    have hle : ¬ jI C 79 0 ≤ i := by rw [i_le]; omega
    have hA1 : jA 2177 16 i = true := jA_iff.mpr ⟨k_2177, by omega, by rw [ln_2177]; omega⟩
    have hA2 : jA 2440 13 i = true := jA_iff.mpr ⟨k_2440, by omega, by rw [ln_2440]; omega⟩
    have hcn := cntA_le (f := F) (mo := mo) (n - (k + 1))
    have hst : cntA F mo (n - k) = cntA F mo (n - (k + 1)) + if (F a).toInt ≤ mo.toInt then 1 else 0 := by
      rw [show n - k = a + 1 from by omega, show n - (k + 1) = a from by omega]
      rfl
    have hi1 : (i + 1).toInt = (n : Int) - k := by rw [i_add1 (by omega)]; omega
    unfold f_X11_beginRun_17 f_X12_run_116 f_X11_beginRun_55 f_X12_run_154
    by_cases c : mo.toInt < (F a).toInt
    · rw [if_neg (by omega)] at hst
      have cm : mo < F a := by rw [i_lt]; exact c
      obtain ⟨C', R', g⟩ := ih q C R (i + 1) (by omega) hi1 (by omega) hC hR hN hNR hF h86 (by rw [hc, hst]; rfl) (by rw [hst]; exact hr)
      simp only [ly_78 hC, ly_159 hR, k_0, k_2398, ← hNR, if_neg hle, hcl, ly_aw hC (show a < 6 by omega), hkn, hA1, hA2, f1, f2, if_pos cm, true_and, and_true, and_false, false_and, and_self, if_true, if_false, ite_self, Nat.reduceEqDiff, reduceIte, Option.bind_some, jlet, jbd_some, jbd_ite, bind_ite]
      exact ⟨C', R', g⟩
    · rw [if_pos (by omega)] at hst
      have cm : ¬ mo < F a := by rw [i_lt]; exact c
      have hA3 : jA 2397 13 (jI C 86 0) = true := jA_iff.mpr ⟨k_2397, by omega, by rw [ln_2397]; omega⟩
      have hA4 : jA 2444 13 (jI C 86 0) = true := jA_iff.mpr ⟨k_2444, by omega, by rw [ln_2444]; omega⟩
      have hnn : (jI C 86 0 + 1).toInt = (jI C 86 0).toInt + 1 := i_add1 (by omega)
      have fC : Fr pG C (jrI (jsI C 86 0 (jI C 86 0 + 1)) 2397 (upd (jAI C 2397) (jI C 86 0).toNatClampNeg i)) := ((Fr.refl).sI (by unfold pG; omega)).rI (by unfold pG; omega)
      have fR : Fr qG R (jsI (jrI R 2444 (upd (jAI R 2444) (jI C 86 0).toNatClampNeg i)) 167 2398 (jI C 86 0 + 1)) := ((Fr.refl).rI (by unfold qG; omega)).sI (by unfold qG; omega)
      obtain ⟨C', R', g1, g2, g3, g4, g5⟩ := ih q (jrI (jsI C 86 0 (jI C 86 0 + 1)) 2397 (upd (jAI C 2397) (jI C 86 0).toNatClampNeg i)) (jsI (jrI R 2444 (upd (jAI R 2444) (jI C 86 0).toNatClampNeg i)) 167 2398 (jI C 86 0 + 1)) (i + 1) (by omega) hi1 (by omega) (hC.fr fC (fun f a z => by unfold pG at z; omega) (fun a z => by have := k16 a; unfold pG at z; omega)) (hR.fr fR (fun f a z => by unfold qG at z; omega) (fun a z => by have := k16r a; unfold qG at z; omega)) hN hNR hF rfl (by simp only [m_I_sI, m_L_sI, m_R_sI, m_AI_sI, m_AL_sI, m_AD_sI, m_AR_sI, m_n_sI, m_I_sL, m_L_sL, m_R_sL, m_AI_sL, m_AL_sL, m_AD_sL, m_AR_sL, m_n_sL, m_I_sR, m_L_sR, m_R_sR, m_AI_sR, m_AL_sR, m_AD_sR, m_AR_sR, m_n_sR, m_I_rI, m_L_rI, m_R_rI, m_AI_rI, m_AL_rI, m_AD_rI, m_AR_rI, m_n_rI, m_I_rL, m_L_rL, m_R_rL, m_AI_rL, m_AL_rL, m_AD_rL, m_AR_rL, m_n_rL, m_I_rD, m_L_rD, m_R_rD, m_AI_rD, m_AL_rD, m_AD_rD, m_AR_rD, m_n_rD, m_I_rR, m_L_rR, m_R_rR, m_AI_rR, m_AL_rR, m_AD_rR, m_AR_rR, m_n_rR, true_and, and_true, and_false, false_and, and_self, if_true, if_false, ite_self, Nat.reduceEqDiff, reduceIte, Option.bind_some, jlet, jbd_some, jbd_ite, bind_ite, hnn]; omega) (fun j hj => by
        simp only [m_I_sI, m_L_sI, m_R_sI, m_AI_sI, m_AL_sI, m_AD_sI, m_AR_sI, m_n_sI, m_I_sL, m_L_sL, m_R_sL, m_AI_sL, m_AL_sL, m_AD_sL, m_AR_sL, m_n_sL, m_I_sR, m_L_sR, m_R_sR, m_AI_sR, m_AL_sR, m_AD_sR, m_AR_sR, m_n_sR, m_I_rI, m_L_rI, m_R_rI, m_AI_rI, m_AL_rI, m_AD_rI, m_AR_rI, m_n_rI, m_I_rL, m_L_rL, m_R_rL, m_AI_rL, m_AL_rL, m_AD_rL, m_AR_rL, m_n_rL, m_I_rD, m_L_rD, m_R_rD, m_AI_rD, m_AL_rD, m_AD_rD, m_AR_rD, m_n_rD, m_I_rR, m_L_rR, m_R_rR, m_AI_rR, m_AL_rR, m_AD_rR, m_AR_rR, m_n_rR, true_and, and_true, and_false, false_and, and_self, if_true, if_false, ite_self, Nat.reduceEqDiff, reduceIte, Option.bind_some, jlet, jbd_some, jbd_ite, bind_ite, upd_if]
        by_cases e : j = (jI C 86 0).toNatClampNeg
        · rw [if_pos e, if_pos e]; exact ⟨rfl, by omega, by omega⟩
        · rw [if_neg e, if_neg e]; rw [i_cl] at e; exact hr j (by omega))
      simp only [ly_78 hC, ly_85 hC, ly_159 hR, ly_166 hR, k_0, k_2398, ← hNR, ← h86, if_neg hle, hcl, ly_aw hC (show a < 6 by omega), hkn, hA1, hA2, hA3, hA4, f1, f2, if_neg cm, m_I_sI, m_L_sI, m_R_sI, m_AI_sI, m_AL_sI, m_AD_sI, m_AR_sI, m_n_sI, m_I_sL, m_L_sL, m_R_sL, m_AI_sL, m_AL_sL, m_AD_sL, m_AR_sL, m_n_sL, m_I_sR, m_L_sR, m_R_sR, m_AI_sR, m_AL_sR, m_AD_sR, m_AR_sR, m_n_sR, m_I_rI, m_L_rI, m_R_rI, m_AI_rI, m_AL_rI, m_AD_rI, m_AR_rI, m_n_rI, m_I_rL, m_L_rL, m_R_rL, m_AI_rL, m_AL_rL, m_AD_rL, m_AR_rL, m_n_rL, m_I_rD, m_L_rD, m_R_rD, m_AI_rD, m_AL_rD, m_AD_rD, m_AR_rD, m_n_rD, m_I_rR, m_L_rR, m_R_rR, m_AI_rR, m_AL_rR, m_AD_rR, m_AR_rR, m_n_rR, true_and, and_true, and_false, false_and, and_self, if_true, if_false, ite_self, Nat.reduceEqDiff, reduceIte, Option.bind_some, jlet, jbd_some, jbd_ite, bind_ite]
      exact ⟨C', R', g1, g2, fC.trans g3, fR.trans g4, g5⟩
theorem count_loop {C R : jM} (hC : Lay C) (hR : Lay R) {mo : Int32} {F : Nat → Int32} {n : Nat} (hn6 : n ≤ 6) (hN : (jI C 79 0).toInt = n) (hNR : jI C 79 0 = jI R 160 2398) (hF : ∀ j : Nat, j < n → jI C 2 (2178 + 3 * j) = F j ∧ jAI R 2440 j = F j) : ∀ (k fuel : Nat) (v i : Int32), k < fuel → i.toInt = (n : Int) - k → k ≤ n → v.toInt = cntA F mo (n - k) →
    ∃ w : Int32, w.toInt = cntA F mo n ∧ f_X11_run_47 fuel 0 mo v i C = (if (jI C 81 0 + w) ≤ (200 : Int32) then (f_X11_beginRun 0 mo C).bind (fun S5 => some (w, S5)) else some (-5, C)) ∧ f_X12_run_52 fuel 2398 mo v i R = (if (jI R 175 2398 + w) ≤ (200 : Int32) then f_X12_run_116 1100000 2398 mo 0 (jsI (jsI (jsI R 165 2398 mo) 167 2398 0) 168 2398 0) else some (-5, R)) := by
  intro k
  induction k with
  | zero =>
    intro fuel v i hf hi hk hv
    obtain ⟨q, rfl⟩ : ∃ q, fuel = q + 1 := ⟨fuel - 1, by omega⟩
    have hle : jI C 79 0 ≤ i := by rw [i_le]; omega
    refine ⟨v, hv, ?_, ?_⟩
    · unfold f_X11_run_47
      simp only [k_0, if_pos hle, if_true]
    · unfold f_X12_run_52
      simp only [k_2398, ← hNR, if_pos hle, if_true, jlet]
  | succ k ih =>
    intro fuel v i hf hi hk hv
    obtain ⟨q, rfl⟩ : ∃ q, fuel = q + 1 := ⟨fuel - 1, by omega⟩
    obtain ⟨a, ha⟩ : ∃ a : Nat, (a : Int) = i.toInt := ⟨i.toInt.toNat, by omega⟩
    have hcl : i.toNatClampNeg = a := by rw [i_cl]; omega
    have hkn := kf_award (show a < 6 by omega)
    obtain ⟨f1, f2⟩ := hF a (by omega)
    have hle : ¬ jI C 79 0 ≤ i := by rw [i_le]; omega
    have hA1 : jA 2177 16 i = true := jA_iff.mpr ⟨k_2177, by omega, by rw [ln_2177]; omega⟩
    have hA2 : jA 2440 13 i = true := jA_iff.mpr ⟨k_2440, by omega, by rw [ln_2440]; omega⟩
    have hcn := cntA_le (f := F) (mo := mo) (n - (k + 1))
    have hst : cntA F mo (n - k) = cntA F mo (n - (k + 1)) + if (F a).toInt ≤ mo.toInt then 1 else 0 := by
      rw [show n - k = a + 1 from by omega, show n - (k + 1) = a from by omega]
      rfl
    have hi1 : (i + 1).toInt = (n : Int) - k := by rw [i_add1 (by omega)]; omega
    unfold f_X11_run_47 f_X12_run_52 f_X11_run_71 f_X12_run_76
    by_cases c : mo.toInt < (F a).toInt
    · rw [if_neg (by omega)] at hst
      have cm : mo < F a := by rw [i_lt]; exact c
      obtain ⟨w, g⟩ := ih q v (i + 1) (by omega) hi1 (by omega) (by rw [hv, hst]; rfl)
      simp only [ly_78 hC, ly_159 hR, k_0, k_2398, ← hNR, if_neg hle, hcl, ly_aw hC (show a < 6 by omega), hkn, hA1, hA2, f1, f2, if_pos cm, Int32.add_zero, true_and, and_true, and_false, false_and, and_self, if_true, if_false, ite_self, Nat.reduceEqDiff, reduceIte, Option.bind_some, jlet, jbd_some, jbd_ite, bind_ite]
      exact ⟨w, g⟩
    · rw [if_pos (by omega)] at hst
      have cm : ¬ mo < F a := by rw [i_lt]; exact c
      obtain ⟨w, g⟩ := ih q (v + 1) (i + 1) (by omega) hi1 (by omega) (by rw [i_add1 (by omega)]; omega)
      simp only [ly_78 hC, ly_159 hR, k_0, k_2398, ← hNR, if_neg hle, hcl, ly_aw hC (show a < 6 by omega), hkn, hA1, hA2, f1, f2, if_neg cm, true_and, and_true, and_false, false_and, and_self, if_true, if_false, ite_self, Nat.reduceEqDiff, reduceIte, Option.bind_some, jlet, jbd_some, jbd_ite, bind_ite]
      exact ⟨w, g⟩
theorem q_run {C R : jM} (hC : Lay C) (hR : Lay R) (h : Rel C R) (mo : Int32) : Sim (f_X11_run 0 mo) (f_X12_run 2398 mo) C R := by
  have hA := h.A
  obtain ⟨n1, n2, n3, n4, -⟩ := hA
  obtain ⟨r1, r2, r3, r4, r5, r6, r7, r8, r9, r10, r11⟩ := h.R
  obtain ⟨t1, t2, t3⟩ := h.N
  obtain ⟨y1, y2, y3, -⟩ := h.Y
  unfold Sim f_X11_run f_X12_run
  by_cases c : 0 ≤ mo.toInt ∧ mo.toInt ≤ 12
  · have h30 : ((30 : Int32) * mo).toInt = 30 * mo.toInt := i_mul (by rw [show (30 : Int32).toInt = 30 from rfl]; omega) (by rw [show (30 : Int32).toInt = 30 from rfl]; omega)
    have h31 : (mo * (30 : Int32)).toInt = mo.toInt * 30 := i_mul (by rw [show (30 : Int32).toInt = 30 from rfl]; omega) (by rw [show (30 : Int32).toInt = 30 from rfl]; omega)
    by_cases c2 : (jI C 87 0).toInt < (jI C 86 0).toInt
    · simp only [h30, h31, k_0, k_2398, p_isMonth, ← r3, ← r5, ← r6, ← t1, in0, i_le, i_lt, i2l_toInt, Int32.reduceToInt, Int64.reduceToInt, t_0, t_l0, t_m40, t_lm40, m_I_sI, m_L_sI, m_R_sI, m_AI_sI, m_AL_sI, m_AD_sI, m_AR_sI, m_n_sI, m_I_sL, m_L_sL, m_R_sL, m_AI_sL, m_AL_sL, m_AD_sL, m_AR_sL, m_n_sL, m_I_sR, m_L_sR, m_R_sR, m_AI_sR, m_AL_sR, m_AD_sR, m_AR_sR, m_n_sR, m_I_rI, m_L_rI, m_R_rI, m_AI_rI, m_AL_rI, m_AD_rI, m_AR_rI, m_n_rI, m_I_rL, m_L_rL, m_R_rL, m_AI_rL, m_AL_rL, m_AD_rL, m_AR_rL, m_n_rL, m_I_rD, m_L_rD, m_R_rD, m_AI_rD, m_AL_rD, m_AD_rD, m_AR_rD, m_n_rD, m_I_rR, m_L_rR, m_R_rR, m_AI_rR, m_AL_rR, m_AD_rR, m_AR_rR, m_n_rR, true_and, and_true, and_false, false_and, and_self, if_true, if_false, ite_self, Nat.reduceEqDiff, reduceIte, Option.bind_some, jlet, jbd_some, jbd_ite, bind_ite]
      rw [if_neg (by omega), if_pos c2, if_neg (by omega), if_pos c2]
      exact ⟨_, _, _, rfl, rfl, h.fr_self⟩
    by_cases c3 : mo.toInt ≤ (jI C 84 0).toInt
    · simp only [h30, h31, k_0, k_2398, p_isMonth, ← r3, ← r5, ← r6, ← t1, in0, i_le, i_lt, i2l_toInt, Int32.reduceToInt, Int64.reduceToInt, t_0, t_l0, t_m40, t_lm40, m_I_sI, m_L_sI, m_R_sI, m_AI_sI, m_AL_sI, m_AD_sI, m_AR_sI, m_n_sI, m_I_sL, m_L_sL, m_R_sL, m_AI_sL, m_AL_sL, m_AD_sL, m_AR_sL, m_n_sL, m_I_sR, m_L_sR, m_R_sR, m_AI_sR, m_AL_sR, m_AD_sR, m_AR_sR, m_n_sR, m_I_rI, m_L_rI, m_R_rI, m_AI_rI, m_AL_rI, m_AD_rI, m_AR_rI, m_n_rI, m_I_rL, m_L_rL, m_R_rL, m_AI_rL, m_AL_rL, m_AD_rL, m_AR_rL, m_n_rL, m_I_rD, m_L_rD, m_R_rD, m_AI_rD, m_AL_rD, m_AD_rD, m_AR_rD, m_n_rD, m_I_rR, m_L_rR, m_R_rR, m_AI_rR, m_AL_rR, m_AD_rR, m_AR_rR, m_n_rR, true_and, and_true, and_false, false_and, and_self, if_true, if_false, ite_self, Nat.reduceEqDiff, reduceIte, Option.bind_some, jlet, jbd_some, jbd_ite, bind_ite]
      rw [if_neg (by omega), if_neg c2, if_pos c3, if_neg (by omega), if_neg c2, if_pos c3]
      exact ⟨_, _, _, rfl, rfl, h.fr_self⟩
    by_cases c4 : 30 * mo.toInt ≤ (jI C 82 0).toInt
    · obtain ⟨n, hn⟩ : ∃ n : Nat, (n : Int) = (jI C 79 0).toInt := ⟨(jI C 79 0).toInt.toNat, by omega⟩
      have hF : ∀ j : Nat, j < n → jI C 2 (2178 + 3 * j) = (fun j => jI C 2 (2178 + 3 * j)) j ∧ jAI R 2440 j = (fun j => jI C 2 (2178 + 3 * j)) j := fun j hj => ⟨rfl, (n4 j (by omega)).2.2.1.symm⟩
      obtain ⟨w, hw, g1, g2⟩ := count_loop hC hR (mo := mo) (by omega) hn.symm n1 hF n 1100000 0 0 (by omega) (by rw [t_0]; omega) (Nat.le_refl n) (by rw [t_0, Nat.sub_self]; rfl)
      have hwn := cntA_le (f := fun j => jI C 2 (2178 + 3 * j)) (mo := mo) n
      have hyw : (jI C 81 0 + w).toInt = (jI C 81 0).toInt + w.toInt := i_add (by omega) (by omega)
      simp only [h30, h31, k_0, k_2398, p_isMonth, ← r3, ← r5, ← r6, ← t1, in0, i_le, i_lt, i2l_toInt, Int32.reduceToInt, Int64.reduceToInt, t_0, t_l0, t_m40, t_lm40, m_I_sI, m_L_sI, m_R_sI, m_AI_sI, m_AL_sI, m_AD_sI, m_AR_sI, m_n_sI, m_I_sL, m_L_sL, m_R_sL, m_AI_sL, m_AL_sL, m_AD_sL, m_AR_sL, m_n_sL, m_I_sR, m_L_sR, m_R_sR, m_AI_sR, m_AL_sR, m_AD_sR, m_AR_sR, m_n_sR, m_I_rI, m_L_rI, m_R_rI, m_AI_rI, m_AL_rI, m_AD_rI, m_AR_rI, m_n_rI, m_I_rL, m_L_rL, m_R_rL, m_AI_rL, m_AL_rL, m_AD_rL, m_AR_rL, m_n_rL, m_I_rD, m_L_rD, m_R_rD, m_AI_rD, m_AL_rD, m_AD_rD, m_AR_rD, m_n_rD, m_I_rR, m_L_rR, m_R_rR, m_AI_rR, m_AL_rR, m_AD_rR, m_AR_rR, m_n_rR, true_and, and_true, and_false, false_and, and_self, if_true, if_false, ite_self, Nat.reduceEqDiff, reduceIte, Option.bind_some, jlet, jbd_some, jbd_ite, bind_ite]
      rw [if_neg (by omega), if_neg c2, if_neg c3, if_pos (by omega), if_neg (by omega), if_neg c2, if_neg c3, if_pos (by omega)]
      rw [g1, g2, ← y1]
      simp only [i_le, hyw, Int32.reduceToInt]
      by_cases c5 : (jI C 81 0).toInt + w.toInt ≤ 200
      · rw [if_pos c5, if_pos c5]
        have fC : Fr (fun t f a => t = 0 ∧ (f = 84 ∨ f = 86 ∨ f = 87) ∧ a = 0) C (jsI (jsI (jsI C 84 0 mo) 86 0 0) 87 0 0) := (((Fr.refl).sI (by omega)).sI (by omega)).sI (by omega)
        have fR : Fr (fun t f a => t = 0 ∧ (f = 165 ∨ f = 167 ∨ f = 168) ∧ a = 2398) R (jsI (jsI (jsI R 165 2398 mo) 167 2398 0) 168 2398 0) := (((Fr.refl).sI (by omega)).sI (by omega)).sI (by omega)
        obtain ⟨C', R', b1, b2, b3, b4, b5, b6, b7⟩ := begin_loop (mo := mo) (F := fun j => jI C 2 (2178 + 3 * j)) (n := n) (by omega) n 1100000 (jsI (jsI (jsI C 84 0 mo) 86 0 0) 87 0 0) (jsI (jsI (jsI R 165 2398 mo) 167 2398 0) 168 2398 0) 0 (by omega) (by rw [t_0]; omega) (Nat.le_refl n) (hC.fr fC (fun f a z => by omega) (fun a z => by omega)) (hR.fr fR (fun f a z => by omega) (fun a z => by omega)) hn.symm n1 hF rfl (by rw [Nat.sub_self]; rfl) (fun j hj => by rw [Nat.sub_self] at hj; exact absurd hj (Nat.not_lt_zero _))
        have hbr : f_X11_beginRun 0 mo C = some C' := by unfold f_X11_beginRun; simp only [k_0, if_true, jlet]; exact b1
        have hF : Fr (fun t f a => (t = 0 ∧ (f = 84 ∨ f = 86 ∨ f = 87) ∧ a = 0) ∨ (t = 3 ∧ a = 2397)) C C' := (fC.mono (fun t f a z => by omega)).trans (b3.mono (fun t f a z => by unfold pG at z; omega))
        have hG : Fr (fun t f a => (t = 0 ∧ (f = 165 ∨ f = 167 ∨ f = 168) ∧ a = 2398) ∨ (t = 3 ∧ a = 2444)) R R' := (fR.mono (fun t f a z => by omega)).trans (b4.mono (fun t f a z => by unfold qG at z; omega))
        have hw2 : w = jI R' 167 2398 := by rw [i_eq, ← b5]; omega
        have e84 : jI C' 84 0 = mo := by rw [b3.i (by unfold pG; omega)]; rfl
        have e87 : jI C' 87 0 = 0 := by rw [b3.i (by unfold pG; omega)]; rfl
        have e165 : jI R' 165 2398 = mo := by rw [b4.i (by unfold qG; omega)]; rfl
        have e168 : jI R' 168 2398 = 0 := by rw [b4.i (by unfold qG; omega)]; rfl
        have e83 : jI C' 83 0 = jI C 83 0 := hF.i (by omega)
        have e81 : jI C' 81 0 = jI C 81 0 := hF.i (by omega)
        have e79 : jI C' 79 0 = jI C 79 0 := hF.i (by omega)
        have e164 : jI R' 164 2398 = jI R 164 2398 := hG.i (by omega)
        have hP : rR C' R' := by
          unfold rR
          rw [e84, e87, e165, e168, e83, e81, e79, e164]
          refine ⟨r1, r2, rfl, by omega, b5, rfl, by decide, by rw [t_0]; omega, by omega, by rw [t_0]; omega, fun j hj => ?_⟩
          obtain ⟨q1, q2, q3⟩ := b7 j (by omega)
          exact ⟨q1, q2, by omega⟩
        rw [hbr, b2]
        have hx : ∀ t, t < 33 → sX R (R') t := fun t _ => hG.sX (fun a _ _ => by omega) t
        have hs : ∀ s, s < 225 → sS R R' s := fun s _ => hG.sS (fun a _ _ => by omega) s
        refine ⟨w, _, _, rfl, by rw [hw2], ?_, hF.mono (fun t f a z => by have := k16 a; unfold pC; omega), hG.mono (fun t f a z => by have := k16r a; unfold pR; omega)⟩
        exact ⟨rT_f hF hG (fun t f a => by unfold cT; omega) (fun t f a => by unfold mT; omega) h.T,
            rN_f hF hG (fun t f a => by unfold cN; omega) (fun t f a => by unfold mN; omega) h.N,
            rP_f hF hG (fun t f a => by unfold cP; omega) (fun t f a => by unfold mP; omega) h.P,
            rD_f hF hG (fun t f a => by unfold cD; omega) (fun _ _ _ z => z.elim) (hs 0 (by omega)) h.D,
            rF_f hF hG (fun t f a => by unfold cF; omega) (fun t f a => by unfold mF; omega) (fun s _ _ => hs s (by omega)) h.F,
            rU_f hF hG (fun t f a => by unfold cU; omega) (fun t f a => by unfold mU; omega) h.U,
            rA_f hF hG (fun t f a => by unfold cA; omega) (fun t f a => by unfold mA; omega) h.A,
            rY_f hF hG (fun t f a => by unfold cY; omega) (fun t f a => by unfold mY; omega) h.Y,
            hP,
            rS_f hF hG (fun t f a => by unfold cS; omega) (fun t f a => by unfold mS; omega) (fun s _ _ => hs s (by omega)) h.S,
            rE_f hF hG (fun t f a => by unfold cE; omega) (fun t f a => by unfold mE; omega) (fun t _ => hx t (by omega)) h.E⟩
      · rw [if_neg c5, if_neg c5]
        exact ⟨_, _, _, rfl, rfl, h.fr_self⟩
    · simp only [h30, h31, k_0, k_2398, p_isMonth, ← r3, ← r5, ← r6, ← t1, in0, i_le, i_lt, i2l_toInt, Int32.reduceToInt, Int64.reduceToInt, t_0, t_l0, t_m40, t_lm40, m_I_sI, m_L_sI, m_R_sI, m_AI_sI, m_AL_sI, m_AD_sI, m_AR_sI, m_n_sI, m_I_sL, m_L_sL, m_R_sL, m_AI_sL, m_AL_sL, m_AD_sL, m_AR_sL, m_n_sL, m_I_sR, m_L_sR, m_R_sR, m_AI_sR, m_AL_sR, m_AD_sR, m_AR_sR, m_n_sR, m_I_rI, m_L_rI, m_R_rI, m_AI_rI, m_AL_rI, m_AD_rI, m_AR_rI, m_n_rI, m_I_rL, m_L_rL, m_R_rL, m_AI_rL, m_AL_rL, m_AD_rL, m_AR_rL, m_n_rL, m_I_rD, m_L_rD, m_R_rD, m_AI_rD, m_AL_rD, m_AD_rD, m_AR_rD, m_n_rD, m_I_rR, m_L_rR, m_R_rR, m_AI_rR, m_AL_rR, m_AD_rR, m_AR_rR, m_n_rR, true_and, and_true, and_false, false_and, and_self, if_true, if_false, ite_self, Nat.reduceEqDiff, reduceIte, Option.bind_some, jlet, jbd_some, jbd_ite, bind_ite]
      rw [if_neg (by omega), if_neg c2, if_neg c3, if_neg (by omega), if_neg (by omega), if_neg c2, if_neg c3, if_neg (by omega)]
      exact ⟨_, _, _, rfl, rfl, h.fr_self⟩
  · simp only [k_0, k_2398, p_isMonth, ← r3, ← r5, ← r6, ← t1, in0, i_le, i_lt, i2l_toInt, Int32.reduceToInt, Int64.reduceToInt, t_0, t_l0, t_m40, t_lm40, m_I_sI, m_L_sI, m_R_sI, m_AI_sI, m_AL_sI, m_AD_sI, m_AR_sI, m_n_sI, m_I_sL, m_L_sL, m_R_sL, m_AI_sL, m_AL_sL, m_AD_sL, m_AR_sL, m_n_sL, m_I_sR, m_L_sR, m_R_sR, m_AI_sR, m_AL_sR, m_AD_sR, m_AR_sR, m_n_sR, m_I_rI, m_L_rI, m_R_rI, m_AI_rI, m_AL_rI, m_AD_rI, m_AR_rI, m_n_rI, m_I_rL, m_L_rL, m_R_rL, m_AI_rL, m_AL_rL, m_AD_rL, m_AR_rL, m_n_rL, m_I_rD, m_L_rD, m_R_rD, m_AI_rD, m_AL_rD, m_AD_rD, m_AR_rD, m_n_rD, m_I_rR, m_L_rR, m_R_rR, m_AI_rR, m_AL_rR, m_AD_rR, m_AR_rR, m_n_rR, true_and, and_true, and_false, false_and, and_self, if_true, if_false, ite_self, Nat.reduceEqDiff, reduceIte, Option.bind_some, jlet, jbd_some, jbd_ite, bind_ite]
    rw [if_pos (by omega), if_pos (by omega)]
    exact ⟨_, _, _, rfl, rfl, h.fr_self⟩

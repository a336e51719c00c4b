/-! PURE: the evaluator: facts; what an act leaves -/
/-- a VALUE is set to another one -/
theorem setTo_vr {n : Int} {C R : jM} (hC : Lay C) {v w s : Nat} (hk : jK v = 7) (hw : jK w = 7) (hvw : v ≠ w) (h : VR n C w R s) : ∃ C', f_X9_setTo v w C = some C' ∧ Fr (pV v) C C' ∧ VR n C' v R s := by
  have n1 : v ≠ w + 1 := fun z => by have := (kd_val hw).1; rw [← z] at this; omega
  have n2 : w ≠ v + 1 := fun z => by have := (kd_val hk).1; rw [← z] at this; omega
  refine ⟨_, setTo_ok hC hk hw, (((Fr.refl).sI (by unfold pV; omega)).sI (by unfold pV; omega)).rL (by unfold pV; omega), ?_⟩
  unfold VR VV
  have e1 : jI (jrL (jsI (jsI C 52 v (jI C 52 w)) 53 v (jI (jsI C 52 v (jI C 52 w)) 53 w)) (v + 1) (va_cpy (jAL C (w + 1)) (jAL C (v + 1)) 0 0 12)) 52 v = jI C 52 w := by simp only [m_I_sI, m_L_sI, m_R_sI, m_AI_sI, m_AL_sI, m_AD_sI, m_AR_sI, m_n_sI, m_I_sL, m_L_sL, m_R_sL, m_AI_sL, m_AL_sL, m_AD_sL, m_AR_sL, m_n_sL, m_I_sR, m_L_sR, m_R_sR, m_AI_sR, m_AL_sR, m_AD_sR, m_AR_sR, m_n_sR, m_I_rI, m_L_rI, m_R_rI, m_AI_rI, m_AL_rI, m_AD_rI, m_AR_rI, m_n_rI, m_I_rL, m_L_rL, m_R_rL, m_AI_rL, m_AL_rL, m_AD_rL, m_AR_rL, m_n_rL, m_I_rD, m_L_rD, m_R_rD, m_AI_rD, m_AL_rD, m_AD_rD, m_AR_rD, m_n_rD, m_I_rR, m_L_rR, m_R_rR, m_AI_rR, m_AL_rR, m_AD_rR, m_AR_rR, m_n_rR, true_and, and_true, and_false, false_and, and_self, if_true, if_false, ite_self, Nat.reduceEqDiff, reduceIte, obt, jlt, jbt, jbd_ite, bind_ite]
  have e2 : jI (jrL (jsI (jsI C 52 v (jI C 52 w)) 53 v (jI (jsI C 52 v (jI C 52 w)) 53 w)) (v + 1) (va_cpy (jAL C (w + 1)) (jAL C (v + 1)) 0 0 12)) 53 v = jI C 53 w := by simp only [m_I_sI, m_L_sI, m_R_sI, m_AI_sI, m_AL_sI, m_AD_sI, m_AR_sI, m_n_sI, m_I_sL, m_L_sL, m_R_sL, m_AI_sL, m_AL_sL, m_AD_sL, m_AR_sL, m_n_sL, m_I_sR, m_L_sR, m_R_sR, m_AI_sR, m_AL_sR, m_AD_sR, m_AR_sR, m_n_sR, m_I_rI, m_L_rI, m_R_rI, m_AI_rI, m_AL_rI, m_AD_rI, m_AR_rI, m_n_rI, m_I_rL, m_L_rL, m_R_rL, m_AI_rL, m_AL_rL, m_AD_rL, m_AR_rL, m_n_rL, m_I_rD, m_L_rD, m_R_rD, m_AI_rD, m_AL_rD, m_AD_rD, m_AR_rD, m_n_rD, m_I_rR, m_L_rR, m_R_rR, m_AI_rR, m_AL_rR, m_AD_rR, m_AR_rR, m_n_rR, true_and, and_true, and_false, false_and, and_self, if_true, if_false, ite_self, Nat.reduceEqDiff, reduceIte, obt, jlt, jbt, jbd_ite, bind_ite]
  have e3 : ∀ j, j < 12 → jAL (jrL (jsI (jsI C 52 v (jI C 52 w)) 53 v (jI (jsI C 52 v (jI C 52 w)) 53 w)) (v + 1) (va_cpy (jAL C (w + 1)) (jAL C (v + 1)) 0 0 12)) (v + 1) j = jAL C (w + 1) j := fun j hj => by
    simp only [m_I_sI, m_L_sI, m_R_sI, m_AI_sI, m_AL_sI, m_AD_sI, m_AR_sI, m_n_sI, m_I_sL, m_L_sL, m_R_sL, m_AI_sL, m_AL_sL, m_AD_sL, m_AR_sL, m_n_sL, m_I_sR, m_L_sR, m_R_sR, m_AI_sR, m_AL_sR, m_AD_sR, m_AR_sR, m_n_sR, m_I_rI, m_L_rI, m_R_rI, m_AI_rI, m_AL_rI, m_AD_rI, m_AR_rI, m_n_rI, m_I_rL, m_L_rL, m_R_rL, m_AI_rL, m_AL_rL, m_AD_rL, m_AR_rL, m_n_rL, m_I_rD, m_L_rD, m_R_rD, m_AI_rD, m_AL_rD, m_AD_rD, m_AR_rD, m_n_rD, m_I_rR, m_L_rR, m_R_rR, m_AI_rR, m_AL_rR, m_AD_rR, m_AR_rR, m_n_rR, true_and, and_true, and_false, false_and, and_self, if_true, if_false, ite_self, Nat.reduceEqDiff, reduceIte, obt, jlt, jbt, jbd_ite, bind_ite]
    unfold va_cpy
    rw [if_pos (by omega)]
    congr 1
    omega
  rw [e1, e2]
  obtain ⟨h1, h2, h3, h4⟩ := h
  refine ⟨h1, h2, h3, fun j hj => ?_⟩
  have := vlen_le h3
  rw [e3 j (by omega)]
  exact h4 j hj
/-- the FACT that is known -/
theorem latest_ok {C R : jM} (hC : Lay C) (hR : Lay R) (h : rF C R) (m : Int32) (v : Int64) (d a : Int32) : ∃ x : Int32, f_X6_latest 1 m v d a C = some x ∧ f_X12_findKnown 2398 m v d a R = some x ∧ (x = -1 ∨ ∃ i : Nat, (i : Int) < (jI C 34 1).toInt ∧ i < 200 ∧ x = nI i) := by
  obtain ⟨h1, h2, h3, h4⟩ := h
  have key : ∀ i : Nat, (i : Int) ≤ (jI C 34 1).toInt → ∀ n n' (x : Int32), i < n → i < n' → x.toInt = (i : Int) - 1 → ∃ y : Int32, f_X6_latest_8 n 1 m v d a x C = some y ∧ f_X12_findKnown_8 n' 2398 m v d a x R = some y ∧ (y = -1 ∨ ∃ i : Nat, (i : Int) < (jI C 34 1).toInt ∧ i < 200 ∧ y = nI i) := by
    intro i
    induction i with
    | zero =>
      intro _ n n' x hn hn' hx
      obtain ⟨n, rfl⟩ : ∃ x, n = x + 1 := ⟨n - 1, by omega⟩
      obtain ⟨n', rfl⟩ : ∃ x, n' = x + 1 := ⟨n' - 1, by omega⟩
      have hx1 : x = -1 := by rw [i_eq, hx]; rfl
      subst hx1
      exact ⟨-1, by rw [f_X6_latest_8, if_pos (by decide)], by rw [f_X12_findKnown_8, if_pos (by decide)], .inl rfl⟩
    | succ i ih =>
      intro hic n n' x hn hn' hx
      obtain ⟨n, rfl⟩ : ∃ x, n = x + 1 := ⟨n - 1, by omega⟩
      obtain ⟨n', rfl⟩ : ∃ x, n' = x + 1 := ⟨n' - 1, by omega⟩
      have hi2 : i < 200 := by omega
      have hx1 : x = nI i := nI_is (by omega) (by omega)
      subst hx1
      have hm : (nI i + (-1 : Int32)).toInt = (i : Int) - 1 := by
        rw [i_add (by rw [nI_toInt (by omega), show (-1 : Int32).toInt = -1 from rfl]; omega) (by rw [nI_toInt (by omega), show (-1 : Int32).toInt = -1 from rfl]; omega), nI_toInt (by omega), show (-1 : Int32).toInt = -1 from rfl]; omega
      obtain ⟨y, y1, y2, y3⟩ := ih (by omega) n n' _ (by omega) (by omega) hm
      obtain ⟨g1, g2, g3, g4, g5, g6, g7, -⟩ := h4 i (by omega)
      have kf := kf_fact hi2
      have n0 : ¬ nI i < 0 := nI_neg (by omega)
      have ci : (nI i).toNatClampNeg = i := nJ_cl (by omega)
      have a4 : jA 4 17 (nI i) = true := jA_n k_4 (by rw [ln_4]; omega) (by omega)
      have A : ∀ z, 2429 ≤ z → z ≤ 2434 → z ≠ 2430 → jA z 13 (nI i) = true := fun z z1 z2 z3 => by
        rcases (show z = 2429 ∨ z = 2431 ∨ z = 2432 ∨ z = 2433 ∨ z = 2434 by omega) with w | w | w | w | w
        · rw [w]; exact jA_n k_2429 (by rw [ln_2429]; omega) (by omega)
        · rw [w]; exact jA_n k_2431 (by rw [ln_2431]; omega) (by omega)
        · rw [w]; exact jA_n k_2432 (by rw [ln_2432]; omega) (by omega)
        · rw [w]; exact jA_n k_2433 (by rw [ln_2433]; omega) (by omega)
        · rw [w]; exact jA_n k_2434 (by rw [ln_2434]; omega) (by omega)
      have a30 : jA 2430 14 (nI i) = true := jA_n k_2430 (by rw [ln_2430]; omega) (by omega)
      -- is it known
      have ek : f_X2_isKnown (5 + 3 * i) d a C = some (if jI C 22 (5 + 3 * i) ≠ -1 ∧ ¬ a < jI C 22 (5 + 3 * i) then 0 else if a < jI C 21 (5 + 3 * i) then 0 else if d < jI C 19 (5 + 3 * i) then 0 else if jI C 20 (5 + 3 * i) < d then 0 else 1) := by
        have e21 : ∀ t0 : Int32, f_X2_isKnown_21 (5 + 3 * i) d a t0 C = some (if a < jI C 21 (5 + 3 * i) then 0 else if t0 = 0 then (if d < jI C 19 (5 + 3 * i) then 0 else if jI C 20 (5 + 3 * i) < d then 0 else 1) else 0) := fun t0 => by
          unfold f_X2_isKnown_21
          rw [if_pos kf]
          repeat' split
          all_goals rfl
        unfold f_X2_isKnown f_X2_isKnown_20
        rw [if_pos kf, e21, e21]
        by_cases c1 : jI C 22 (5 + 3 * i) = -1
        · rw [if_pos c1, if_neg (show ¬ (jI C 22 (5 + 3 * i) ≠ -1 ∧ ¬ a < jI C 22 (5 + 3 * i)) from fun z => z.1 c1), if_pos rfl]
        · rw [if_neg c1]
          by_cases c2 : a < jI C 22 (5 + 3 * i)
          · rw [if_pos c2, if_neg (show ¬ (jI C 22 (5 + 3 * i) ≠ -1 ∧ ¬ a < jI C 22 (5 + 3 * i)) from fun z => z.2 c2), if_pos rfl]
          · rw [if_neg c2, if_pos (show jI C 22 (5 + 3 * i) ≠ -1 ∧ ¬ a < jI C 22 (5 + 3 * i) from ⟨c1, c2⟩), if_neg (show ¬ (1 : Int32) = 0 by decide), ite_self]
      have ec : f_X6_latest_8 (n + 1) 1 m v d a (nI i) C = if jI C 17 (5 + 3 * i) = m ∧ jL C 18 (5 + 3 * i) = v ∧ ¬ (jI C 22 (5 + 3 * i) ≠ -1 ∧ ¬ a < jI C 22 (5 + 3 * i)) ∧ ¬ a < jI C 21 (5 + 3 * i) ∧ ¬ d < jI C 19 (5 + 3 * i) ∧ ¬ jI C 20 (5 + 3 * i) < d then some (nI i) else some y := by
        rw [f_X6_latest_8, if_neg n0, if_pos k_1, ly_35 hC, obt, if_pos a4, ci, ly_bk hC hi2, obt, if_pos kf, ek]
        unfold f_X6_latest_56
        rw [obt, jlt, y1]
        by_cases c1 : jI C 17 (5 + 3 * i) = m
        · by_cases c2 : jL C 18 (5 + 3 * i) = v
          · rw [if_pos c1, if_pos c2]
            by_cases c3 : jI C 22 (5 + 3 * i) ≠ -1 ∧ ¬ a < jI C 22 (5 + 3 * i)
            · rw [if_pos c3, if_pos rfl, if_neg (fun z => z.2.2.1 c3)]
            · rw [if_neg c3]
              by_cases c4 : a < jI C 21 (5 + 3 * i)
              · rw [if_pos c4, if_pos rfl, if_neg (fun z => z.2.2.2.1 c4)]
              · rw [if_neg c4]
                by_cases c5 : d < jI C 19 (5 + 3 * i)
                · rw [if_pos c5, if_pos rfl, if_neg (fun z => z.2.2.2.2.1 c5)]
                · rw [if_neg c5]
                  by_cases c6 : jI C 20 (5 + 3 * i) < d
                  · rw [if_pos c6, if_pos rfl, if_neg (fun z => z.2.2.2.2.2 c6)]
                  · rw [if_neg c6, if_neg (by decide), if_pos ⟨c1, c2, c3, c4, c5, c6⟩]
          · rw [if_pos c1, if_neg c2, if_neg (fun z => c2 z.2.1)]
        · rw [if_neg c1, if_neg (fun z => c1 z.1)]
      have e52 : ∀ t0 : Int32, f_X12_findKnown_52 (f_X12_findKnown_8 n') 2398 m v d a (nI i) t0 R = if t0 ≠ 0 ∧ jI C 17 (5 + 3 * i) = m ∧ jL C 18 (5 + 3 * i) = v ∧ ¬ d < jI C 19 (5 + 3 * i) ∧ ¬ jI C 20 (5 + 3 * i) < d then some (nI i) else some y := fun t0 => by
        unfold f_X12_findKnown_52 f_X12_findKnown_110
        rw [jlt, y2, if_pos k_2398, ly_140 hR, obt, if_pos (A _ (by omega) (by omega) (by omega)), ci, ← g1, ly_141 hR, obt, if_pos a30, ← g2, ly_142 hR, obt, if_pos (A _ (by omega) (by omega) (by omega)), ly_143 hR, obt, if_pos (A _ (by omega) (by omega) (by omega)), ← g3, ← g4]
        have hin : f_X12_in d.toInt64 (jI C 19 (5 + 3 * i)).toInt64 (jI C 20 (5 + 3 * i)).toInt64 = 0 ↔ (d < jI C 19 (5 + 3 * i) ∨ jI C 20 (5 + 3 * i) < d) := by
          rw [in0, i2l_toInt, i2l_toInt, i2l_toInt, i_lt, i_lt]; omega
        by_cases c0 : t0 = 0
        · rw [if_pos c0, if_neg (fun z => z.1 c0)]
        · rw [if_neg c0]
          by_cases c1 : jI C 17 (5 + 3 * i) = m
          · by_cases c2 : jL C 18 (5 + 3 * i) = v
            · rw [if_pos c1, if_pos c2]
              by_cases c3 : d < jI C 19 (5 + 3 * i) ∨ jI C 20 (5 + 3 * i) < d
              · rw [if_pos (hin.mpr c3), if_neg (fun z => c3.elim z.2.2.2.1 z.2.2.2.2)]
              · rw [if_neg (fun z => c3 (hin.mp z)), if_pos ⟨c0, c1, c2, fun z => c3 (.inl z), fun z => c3 (.inr z)⟩]
            · rw [if_pos c1, if_neg c2, if_neg (fun z => c2 z.2.2.1)]
          · rw [if_neg c1, if_neg (fun z => c1 z.2.1)]
      have er : f_X12_findKnown_8 (n' + 1) 2398 m v d a (nI i) R = if jI C 17 (5 + 3 * i) = m ∧ jL C 18 (5 + 3 * i) = v ∧ ¬ (jI C 22 (5 + 3 * i) ≠ -1 ∧ ¬ a < jI C 22 (5 + 3 * i)) ∧ ¬ a < jI C 21 (5 + 3 * i) ∧ ¬ d < jI C 19 (5 + 3 * i) ∧ ¬ jI C 20 (5 + 3 * i) < d then some (nI i) else some y := by
        rw [f_X12_findKnown_8, if_neg n0, if_pos k_2398, ly_144 hR, obt, if_pos (A _ (by omega) (by omega) (by omega)), ci, ← g5]
        unfold f_X12_findKnown_51 f_X12_findKnown_47
        rw [ly_145 hR, obt, if_pos (A _ (by omega) (by omega) (by omega)), obt, if_pos (A _ (by omega) (by omega) (by omega)), ← g6, e52, e52]
        have hv0 : jI C 22 (5 + 3 * i) < 0 ↔ jI C 22 (5 + 3 * i) = -1 := by
          rw [i_lt, i_eq, t_0, show (-1 : Int32).toInt = -1 from rfl]
          rcases g7 with z | z
          · rw [z]; decide
          · omega
        have hle : jI C 22 (5 + 3 * i) ≤ a ↔ ¬ a < jI C 22 (5 + 3 * i) := by rw [i_le, i_lt]; omega
        by_cases c1 : a < jI C 21 (5 + 3 * i)
        · rw [if_pos c1, if_neg (fun z => z.1 rfl), if_neg (fun z => z.2.2.2.1 c1)]
        · rw [if_neg c1]
          by_cases c2 : jI C 22 (5 + 3 * i) = -1
          · rw [if_pos (hv0.mpr c2)]
            by_cases c3 : jI C 17 (5 + 3 * i) = m ∧ jL C 18 (5 + 3 * i) = v ∧ ¬ d < jI C 19 (5 + 3 * i) ∧ ¬ jI C 20 (5 + 3 * i) < d
            · rw [if_pos ⟨by decide, c3⟩, if_pos ⟨c3.1, c3.2.1, fun z => z.1 c2, c1, c3.2.2.1, c3.2.2.2⟩]
            · rw [if_neg (fun z => c3 z.2), if_neg (fun z => c3 ⟨z.1, z.2.1, z.2.2.2.2.1, z.2.2.2.2.2⟩)]
          · rw [if_neg (fun z => c2 (hv0.mp z))]
            by_cases c4 : a < jI C 22 (5 + 3 * i)
            · rw [if_neg (fun z => (hle.mp z) c4)]
              by_cases c3 : jI C 17 (5 + 3 * i) = m ∧ jL C 18 (5 + 3 * i) = v ∧ ¬ d < jI C 19 (5 + 3 * i) ∧ ¬ jI C 20 (5 + 3 * i) < d
              · rw [if_pos ⟨by decide, c3⟩, if_pos ⟨c3.1, c3.2.1, fun z => z.2 c4, c1, c3.2.2.1, c3.2.2.2⟩]
              · rw [if_neg (fun z => c3 z.2), if_neg (fun z => c3 ⟨z.1, z.2.1, z.2.2.2.2.1, z.2.2.2.2.2⟩)]
            · rw [if_pos (hle.mpr c4), if_neg (fun z => z.1 rfl), if_neg (fun z => z.2.2.1 ⟨c2, c4⟩)]
      rw [ec, er]
      by_cases c : jI C 17 (5 + 3 * i) = m ∧ jL C 18 (5 + 3 * i) = v ∧ ¬ (jI C 22 (5 + 3 * i) ≠ -1 ∧ ¬ a < jI C 22 (5 + 3 * i)) ∧ ¬ a < jI C 21 (5 + 3 * i) ∧ ¬ d < jI C 19 (5 + 3 * i) ∧ ¬ jI C 20 (5 + 3 * i) < d
      · rw [if_pos c]; exact ⟨_, rfl, rfl, .inr ⟨i, by omega, hi2, rfl⟩⟩
      · rw [if_neg c]; exact ⟨y, rfl, rfl, y3⟩
  obtain ⟨c, hc⟩ : ∃ c : Nat, (jI C 34 1).toInt = c := ⟨(jI C 34 1).toInt.toNat, by omega⟩
  have hx : (jI C 34 1 - (1 : Int32)).toInt = (c : Int) - 1 := by rw [i_sub1 (by omega), hc]
  have hk := key c (by omega) 1100000 1100000 _ (by omega) (by omega) hx
  unfold f_X6_latest f_X12_findKnown
  rw [if_pos k_1, jlt, if_pos k_2398, jlt, ← h1]
  exact hk

/-! PURE: VALUES: what shape, copy, setNumber, setRow, setTo do -/
theorem updD_if {r : Nat → UInt64} {i j : Nat} {v : UInt64} : vf_upd r i v j = if j = i then v else r j := rfl
theorem d0_0 : FP.dconst0 = 0 := by decide
def qV (t f a : Nat) : Prop := t = 3 ∧ (2399 ≤ a ∧ a ≤ 2402)
theorem Lay.frV {R R' : jM} (h : Lay R) (hF : Fr qV R R') : Lay R' := h.fr hF (fun f a z => by unfold qV at z; omega) (fun a z => by have := k16r a; unfold qV at z; omega)
theorem i12 {v w : Int32} {s i : Nat} (hv : v.toInt = s) (hs : s < 1500) (hw : w.toInt = i) (hi : i < 12) : (((12 : Int32) * v) + w).toInt = 12 * s + i := by
  have h : ((12 : Int32) * v).toInt = 12 * v.toInt := i_mul (by rw [show (12 : Int32).toInt = 12 from rfl]; omega) (by rw [show (12 : Int32).toInt = 12 from rfl]; omega)
  rw [i_add (by rw [h]; omega) (by rw [h]; omega), h]; omega
theorem shape_loop {v so n : Int32} {s : Nat} (hv : v.toInt = s) (hs : s < 1500) : ∀ (k fuel : Nat) (R : jM) (i : Int32), k < fuel → i.toInt = 12 - (k : Int) → k ≤ 12 → Lay R →
    ∃ R' : jM, f_X12_shape_17 fuel 2398 v so i R = some R' ∧ Fr qV R R' ∧ jAI R' = jAI R ∧ (∀ j : Nat, jAL R' 2401 j = if 12 * s + (12 - k) ≤ j ∧ j < 12 * s + 12 then (if f_X12_isKin so = 0 then 0 else -1) else jAL R 2401 j) ∧ (∀ j : Nat, jAD R' 2402 j = if 12 * s + (12 - k) ≤ j ∧ j < 12 * s + 12 then 0 else jAD R 2402 j) := by
  intro k
  induction k with
  | zero =>
    intro fuel R i hf hi hk hR
    obtain ⟨m, rfl⟩ : ∃ m, fuel = m + 1 := ⟨fuel - 1, by omega⟩
    unfold f_X12_shape_17
    rw [if_pos (by rw [i_le, show (12 : Int32).toInt = 12 from rfl]; omega)]
    exact ⟨R, rfl, Fr.refl, rfl, fun j => by rw [if_neg (by omega)], fun j => by rw [if_neg (by omega)]⟩
  | succ k ih =>
    intro fuel R i hf hi hk hR
    obtain ⟨m, rfl⟩ : ∃ m, fuel = m + 1 := ⟨fuel - 1, by omega⟩
    unfold f_X12_shape_17
    have hlt : ¬ (12 : Int32) ≤ i := by rw [i_le, show (12 : Int32).toInt = 12 from rfl]; omega
    have h12 := i12 hv hs (show i.toInt = ((11 - k : Nat) : Int) by omega) (by omega)
    have hcl : (((12 : Int32) * v) + i).toNatClampNeg = 12 * s + (11 - k) := by rw [i_cl, h12]; omega
    have hA1 : jA 2401 14 (((12 : Int32) * v) + i) = true := jA_iff.mpr ⟨k_2401, by omega, by rw [ln_2401]; omega⟩
    have hA2 : jA 2402 12 (((12 : Int32) * v) + i) = true := jA_iff.mpr ⟨k_2402, by omega, by rw [ln_2402]; omega⟩
    have hx : (i + (1 : Int32)).toInt = 12 - (k : Int) := by rw [i_add1 (by omega)]; omega
    have hgo : ∀ q : Int64, (q = if f_X12_isKin so = 0 then 0 else -1) → ∃ R' : jM, f_X12_shape_49 (f_X12_shape_17 m) 2398 v so i 2401 (((12 : Int32) * v) + i) q R = some R' ∧ Fr qV R R' ∧ jAI R' = jAI R ∧ (∀ j : Nat, jAL R' 2401 j = if 12 * s + (12 - (k + 1)) ≤ j ∧ j < 12 * s + 12 then (if f_X12_isKin so = 0 then 0 else -1) else jAL R 2401 j) ∧ (∀ j : Nat, jAD R' 2402 j = if 12 * s + (12 - (k + 1)) ≤ j ∧ j < 12 * s + 12 then 0 else jAD R 2402 j) := by
      intro q hq
      unfold f_X12_shape_49
      have hF : Fr qV R (jrD (jrL R 2401 (vp_updL (jAL R 2401) (12 * s + (11 - k)) q)) 2402 (vf_upd (jAD R 2402) (12 * s + (11 - k)) FP.dconst0)) := ((Fr.refl).rL (by unfold qV; omega)).rD (by unfold qV; omega)
      obtain ⟨R', g1, g2, g3, g4, g5⟩ := ih m _ (i + (1 : Int32)) (by omega) hx (by omega) (hR.frV hF)
      simp only [ly_91 hR, k_2398, hA1, hA2, hcl, m_I_sI, m_L_sI, m_R_sI, m_AI_sI, m_AL_sI, m_AD_sI, m_AR_sI, m_n_sI, m_I_sL, m_L_sL, m_R_sL, m_AI_sL, m_AL_sL, m_AD_sL, m_AR_sL, m_n_sL, m_I_sR, m_L_sR, m_R_sR, m_AI_sR, m_AL_sR, m_AD_sR, m_AR_sR, m_n_sR, m_I_rI, m_L_rI, m_R_rI, m_AI_rI, m_AL_rI, m_AD_rI, m_AR_rI, m_n_rI, m_I_rL, m_L_rL, m_R_rL, m_AI_rL, m_AL_rL, m_AD_rL, m_AR_rL, m_n_rL, m_I_rD, m_L_rD, m_R_rD, m_AI_rD, m_AL_rD, m_AD_rD, m_AR_rD, m_n_rD, m_I_rR, m_L_rR, m_R_rR, m_AI_rR, m_AL_rR, m_AD_rR, m_AR_rR, m_n_rR, true_and, and_true, and_false, false_and, and_self, if_true, if_false, ite_self, Nat.reduceEqDiff, reduceIte, Option.bind_some, jlet, jbd_some, jbd_ite, bind_ite]
      refine ⟨R', g1, hF.trans g2, by rw [g3]; rfl, fun j => ?_, fun j => ?_⟩
      · rw [g4 j]
        simp only [m_I_sI, m_L_sI, m_R_sI, m_AI_sI, m_AL_sI, m_AD_sI, m_AR_sI, m_n_sI, m_I_sL, m_L_sL, m_R_sL, m_AI_sL, m_AL_sL, m_AD_sL, m_AR_sL, m_n_sL, m_I_sR, m_L_sR, m_R_sR, m_AI_sR, m_AL_sR, m_AD_sR, m_AR_sR, m_n_sR, m_I_rI, m_L_rI, m_R_rI, m_AI_rI, m_AL_rI, m_AD_rI, m_AR_rI, m_n_rI, m_I_rL, m_L_rL, m_R_rL, m_AI_rL, m_AL_rL, m_AD_rL, m_AR_rL, m_n_rL, m_I_rD, m_L_rD, m_R_rD, m_AI_rD, m_AL_rD, m_AD_rD, m_AR_rD, m_n_rD, m_I_rR, m_L_rR, m_R_rR, m_AI_rR, m_AL_rR, m_AD_rR, m_AR_rR, m_n_rR, true_and, and_true, and_false, false_and, and_self, if_true, if_false, ite_self, Nat.reduceEqDiff, reduceIte, Option.bind_some, jlet, jbd_some, jbd_ite, bind_ite, updL_if]
        by_cases e : j = 12 * s + (11 - k)
        · rw [if_neg (by omega), if_pos e, if_pos (show 12 * s + (12 - (k + 1)) ≤ j ∧ j < 12 * s + 12 by omega), hq]
        · rw [if_neg e]
          by_cases e2 : 12 * s + (12 - k) ≤ j ∧ j < 12 * s + 12
          · rw [if_pos e2, if_pos (show 12 * s + (12 - (k + 1)) ≤ j ∧ j < 12 * s + 12 by omega)]
          · rw [if_neg e2, if_neg (by omega)]
      · rw [g5 j]
        simp only [m_I_sI, m_L_sI, m_R_sI, m_AI_sI, m_AL_sI, m_AD_sI, m_AR_sI, m_n_sI, m_I_sL, m_L_sL, m_R_sL, m_AI_sL, m_AL_sL, m_AD_sL, m_AR_sL, m_n_sL, m_I_sR, m_L_sR, m_R_sR, m_AI_sR, m_AL_sR, m_AD_sR, m_AR_sR, m_n_sR, m_I_rI, m_L_rI, m_R_rI, m_AI_rI, m_AL_rI, m_AD_rI, m_AR_rI, m_n_rI, m_I_rL, m_L_rL, m_R_rL, m_AI_rL, m_AL_rL, m_AD_rL, m_AR_rL, m_n_rL, m_I_rD, m_L_rD, m_R_rD, m_AI_rD, m_AL_rD, m_AD_rD, m_AR_rD, m_n_rD, m_I_rR, m_L_rR, m_R_rR, m_AI_rR, m_AL_rR, m_AD_rR, m_AR_rR, m_n_rR, true_and, and_true, and_false, false_and, and_self, if_true, if_false, ite_self, Nat.reduceEqDiff, reduceIte, Option.bind_some, jlet, jbd_some, jbd_ite, bind_ite, updD_if]
        by_cases e : j = 12 * s + (11 - k)
        · rw [if_neg (by omega), if_pos e, if_pos (by omega), d0_0]
        · rw [if_neg e]
          by_cases e2 : 12 * s + (12 - k) ≤ j ∧ j < 12 * s + 12
          · rw [if_pos e2, if_pos (show 12 * s + (12 - (k + 1)) ≤ j ∧ j < 12 * s + 12 by omega)]
          · rw [if_neg e2, if_neg (by omega)]
    simp only [if_neg hlt, k_2398, ly_90 hR, Option.bind_some, if_true]
    by_cases hk : f_X12_isKin so = 0
    · rw [if_pos hk]; exact hgo 0 (by rw [if_pos hk])
    · rw [if_neg hk]; exact hgo (-1) (by rw [if_neg hk])
theorem shape_ok {R : jM} (hR : Lay R) {v so n : Int32} {s : Nat} (hv : v.toInt = s) (hs : s < 1500) :
    ∃ R' : jM, f_X12_shape 2398 v so n R = some R' ∧ Fr qV R R' ∧ jAI R' 2399 = upd (jAI R 2399) s so ∧ jAI R' 2400 = upd (jAI R 2400) s n ∧ (∀ j : Nat, jAL R' 2401 j = if 12 * s ≤ j ∧ j < 12 * s + 12 then (if f_X12_isKin so = 0 then 0 else -1) else jAL R 2401 j) ∧ (∀ j : Nat, jAD R' 2402 j = if 12 * s ≤ j ∧ j < 12 * s + 12 then 0 else jAD R 2402 j) := by
  unfold f_X12_shape
  have hcl : v.toNatClampNeg = s := by rw [i_cl]; omega
  have hA1 : jA 2399 13 v = true := jA_iff.mpr ⟨k_2399, by omega, by rw [ln_2399]; omega⟩
  have hA2 : jA 2400 13 v = true := jA_iff.mpr ⟨k_2400, by omega, by rw [ln_2400]; omega⟩
  have hF : Fr qV R (jrI (jrI R 2399 (upd (jAI R 2399) s so)) 2400 (upd (jAI R 2400) s n)) := ((Fr.refl).rI (by unfold qV; omega)).rI (by unfold qV; omega)
  obtain ⟨R', g1, g2, g3, g4, g5⟩ := shape_loop hv hs (so := so) (n := n) 12 1100000 _ 0 (by omega) (by rw [t_0]; rfl) (by omega) (hR.frV hF)
  simp only [ly_88 hR, ly_89 hR, k_2398, hA1, hA2, hcl, m_I_sI, m_L_sI, m_R_sI, m_AI_sI, m_AL_sI, m_AD_sI, m_AR_sI, m_n_sI, m_I_sL, m_L_sL, m_R_sL, m_AI_sL, m_AL_sL, m_AD_sL, m_AR_sL, m_n_sL, m_I_sR, m_L_sR, m_R_sR, m_AI_sR, m_AL_sR, m_AD_sR, m_AR_sR, m_n_sR, m_I_rI, m_L_rI, m_R_rI, m_AI_rI, m_AL_rI, m_AD_rI, m_AR_rI, m_n_rI, m_I_rL, m_L_rL, m_R_rL, m_AI_rL, m_AL_rL, m_AD_rL, m_AR_rL, m_n_rL, m_I_rD, m_L_rD, m_R_rD, m_AI_rD, m_AL_rD, m_AD_rD, m_AR_rD, m_n_rD, m_I_rR, m_L_rR, m_R_rR, m_AI_rR, m_AL_rR, m_AD_rR, m_AR_rR, m_n_rR, true_and, and_true, and_false, false_and, and_self, if_true, if_false, ite_self, Nat.reduceEqDiff, reduceIte, Option.bind_some, jlet, jbd_some, jbd_ite, bind_ite]
  exact ⟨R', g1, hF.trans g2, by rw [g3]; rfl, by rw [g3]; rfl, fun j => by rw [g4 j]; rfl, fun j => by rw [g5 j]; rfl⟩
theorem copy_loop {v w : Int32} {s q : Nat} (hv : v.toInt = s) (hs : s < 1500) (hw : w.toInt = q) (hq : q < 1500) : ∀ (k fuel : Nat) (R : jM) (i : Int32), k < fuel → i.toInt = 12 - (k : Int) → k ≤ 12 → Lay R →
    ∃ R' : jM, f_X12_copy_26 fuel 2398 v w i R = some R' ∧ Fr qV R R' ∧ jAI R' = jAI R ∧ (∀ j : Nat, jAL R' 2401 j = if 12 * s + (12 - k) ≤ j ∧ j < 12 * s + 12 then jAL R 2401 (12 * q + (j - 12 * s)) else jAL R 2401 j) ∧ (∀ j : Nat, jAD R' 2402 j = if 12 * s + (12 - k) ≤ j ∧ j < 12 * s + 12 then jAD R 2402 (12 * q + (j - 12 * s)) else jAD R 2402 j) := by
  intro k
  induction k with
  | zero =>
    intro fuel R i hf hi hk hR
    obtain ⟨m, rfl⟩ : ∃ m, fuel = m + 1 := ⟨fuel - 1, by omega⟩
    unfold f_X12_copy_26
    rw [if_pos (by rw [i_le, show (12 : Int32).toInt = 12 from rfl]; omega)]
    exact ⟨R, rfl, Fr.refl, rfl, fun j => by rw [if_neg (by omega)], fun j => by rw [if_neg (by omega)]⟩
  | succ k ih =>
    intro fuel R i hf hi hk hR
    obtain ⟨m, rfl⟩ : ∃ m, fuel = m + 1 := ⟨fuel - 1, by omega⟩
    unfold f_X12_copy_26
    have hlt : ¬ (12 : Int32) ≤ i := by rw [i_le, show (12 : Int32).toInt = 12 from rfl]; omega
    have h12 := i12 hv hs (show i.toInt = ((11 - k : Nat) : Int) by omega) (by omega)
    have h13 := i12 hw hq (show i.toInt = ((11 - k : Nat) : Int) by omega) (by omega)
    have hcl : (((12 : Int32) * v) + i).toNatClampNeg = 12 * s + (11 - k) := by rw [i_cl, h12]; omega
    have hcm : (((12 : Int32) * w) + i).toNatClampNeg = 12 * q + (11 - k) := by rw [i_cl, h13]; omega
    have hA1 : jA 2401 14 (((12 : Int32) * v) + i) = true := jA_iff.mpr ⟨k_2401, by omega, by rw [ln_2401]; omega⟩
    have hA2 : jA 2402 12 (((12 : Int32) * v) + i) = true := jA_iff.mpr ⟨k_2402, by omega, by rw [ln_2402]; omega⟩
    have hA3 : jA 2401 14 (((12 : Int32) * w) + i) = true := jA_iff.mpr ⟨k_2401, by omega, by rw [ln_2401]; omega⟩
    have hA4 : jA 2402 12 (((12 : Int32) * w) + i) = true := jA_iff.mpr ⟨k_2402, by omega, by rw [ln_2402]; omega⟩
    have hx : (i + (1 : Int32)).toInt = 12 - (k : Int) := by rw [i_add1 (by omega)]; omega
    have hF : Fr qV R (jrD (jrL R 2401 (vp_updL (jAL R 2401) (12 * s + (11 - k)) (jAL R 2401 (12 * q + (11 - k))))) 2402 (vf_upd (jAD R 2402) (12 * s + (11 - k)) (jAD R 2402 (12 * q + (11 - k))))) := ((Fr.refl).rL (by unfold qV; omega)).rD (by unfold qV; omega)
    obtain ⟨R', g1, g2, g3, g4, g5⟩ := ih m _ (i + (1 : Int32)) (by omega) hx (by omega) (hR.frV hF)
    simp only [if_neg hlt, ly_90 hR, ly_91 hR, k_2398, hA1, hA2, hA3, hA4, hcl, hcm, m_I_sI, m_L_sI, m_R_sI, m_AI_sI, m_AL_sI, m_AD_sI, m_AR_sI, m_n_sI, m_I_sL, m_L_sL, m_R_sL, m_AI_sL, m_AL_sL, m_AD_sL, m_AR_sL, m_n_sL, m_I_sR, m_L_sR, m_R_sR, m_AI_sR, m_AL_sR, m_AD_sR, m_AR_sR, m_n_sR, m_I_rI, m_L_rI, m_R_rI, m_AI_rI, m_AL_rI, m_AD_rI, m_AR_rI, m_n_rI, m_I_rL, m_L_rL, m_R_rL, m_AI_rL, m_AL_rL, m_AD_rL, m_AR_rL, m_n_rL, m_I_rD, m_L_rD, m_R_rD, m_AI_rD, m_AL_rD, m_AD_rD, m_AR_rD, m_n_rD, m_I_rR, m_L_rR, m_R_rR, m_AI_rR, m_AL_rR, m_AD_rR, m_AR_rR, m_n_rR, true_and, and_true, and_false, false_and, and_self, if_true, if_false, ite_self, Nat.reduceEqDiff, reduceIte, Option.bind_some, jlet, jbd_some, jbd_ite, bind_ite]
    refine ⟨R', g1, hF.trans g2, by rw [g3]; rfl, fun j => ?_, fun j => ?_⟩
    · rw [g4 j]
      simp only [m_I_sI, m_L_sI, m_R_sI, m_AI_sI, m_AL_sI, m_AD_sI, m_AR_sI, m_n_sI, m_I_sL, m_L_sL, m_R_sL, m_AI_sL, m_AL_sL, m_AD_sL, m_AR_sL, m_n_sL, m_I_sR, m_L_sR, m_R_sR, m_AI_sR, m_AL_sR, m_AD_sR, m_AR_sR, m_n_sR, m_I_rI, m_L_rI, m_R_rI, m_AI_rI, m_AL_rI, m_AD_rI, m_AR_rI, m_n_rI, m_I_rL, m_L_rL, m_R_rL, m_AI_rL, m_AL_rL, m_AD_rL, m_AR_rL, m_n_rL, m_I_rD, m_L_rD, m_R_rD, m_AI_rD, m_AL_rD, m_AD_rD, m_AR_rD, m_n_rD, m_I_rR, m_L_rR, m_R_rR, m_AI_rR, m_AL_rR, m_AD_rR, m_AR_rR, m_n_rR, true_and, and_true, and_false, false_and, and_self, if_true, if_false, ite_self, Nat.reduceEqDiff, reduceIte, Option.bind_some, jlet, jbd_some, jbd_ite, bind_ite, updL_if]
      by_cases e : j = 12 * s + (11 - k)
      · rw [if_neg (show ¬ (12 * s + (12 - k) ≤ j ∧ j < 12 * s + 12) by omega), if_pos e, if_pos (show 12 * s + (12 - (k + 1)) ≤ j ∧ j < 12 * s + 12 by omega), show 12 * q + (j - 12 * s) = 12 * q + (11 - k) from by omega]
      · rw [if_neg e]
        by_cases e2 : 12 * s + (12 - k) ≤ j ∧ j < 12 * s + 12
        · rw [if_pos e2, if_neg (show ¬ (12 * q + (j - 12 * s) = 12 * s + (11 - k)) by omega), if_pos (show 12 * s + (12 - (k + 1)) ≤ j ∧ j < 12 * s + 12 by omega)]
        · rw [if_neg e2, if_neg (show ¬ (12 * s + (12 - (k + 1)) ≤ j ∧ j < 12 * s + 12) by omega)]
    · rw [g5 j]
      simp only [m_I_sI, m_L_sI, m_R_sI, m_AI_sI, m_AL_sI, m_AD_sI, m_AR_sI, m_n_sI, m_I_sL, m_L_sL, m_R_sL, m_AI_sL, m_AL_sL, m_AD_sL, m_AR_sL, m_n_sL, m_I_sR, m_L_sR, m_R_sR, m_AI_sR, m_AL_sR, m_AD_sR, m_AR_sR, m_n_sR, m_I_rI, m_L_rI, m_R_rI, m_AI_rI, m_AL_rI, m_AD_rI, m_AR_rI, m_n_rI, m_I_rL, m_L_rL, m_R_rL, m_AI_rL, m_AL_rL, m_AD_rL, m_AR_rL, m_n_rL, m_I_rD, m_L_rD, m_R_rD, m_AI_rD, m_AL_rD, m_AD_rD, m_AR_rD, m_n_rD, m_I_rR, m_L_rR, m_R_rR, m_AI_rR, m_AL_rR, m_AD_rR, m_AR_rR, m_n_rR, true_and, and_true, and_false, false_and, and_self, if_true, if_false, ite_self, Nat.reduceEqDiff, reduceIte, Option.bind_some, jlet, jbd_some, jbd_ite, bind_ite, updD_if]
      by_cases e : j = 12 * s + (11 - k)
      · rw [if_neg (show ¬ (12 * s + (12 - k) ≤ j ∧ j < 12 * s + 12) by omega), if_pos e, if_pos (show 12 * s + (12 - (k + 1)) ≤ j ∧ j < 12 * s + 12 by omega), show 12 * q + (j - 12 * s) = 12 * q + (11 - k) from by omega]
      · rw [if_neg e]
        by_cases e2 : 12 * s + (12 - k) ≤ j ∧ j < 12 * s + 12
        · rw [if_pos e2, if_neg (show ¬ (12 * q + (j - 12 * s) = 12 * s + (11 - k)) by omega), if_pos (show 12 * s + (12 - (k + 1)) ≤ j ∧ j < 12 * s + 12 by omega)]
        · rw [if_neg e2, if_neg (show ¬ (12 * s + (12 - (k + 1)) ≤ j ∧ j < 12 * s + 12) by omega)]
theorem copy_ok {R : jM} (hR : Lay R) {v w : Int32} {s q : Nat} (hv : v.toInt = s) (hs : s < 1500) (hw : w.toInt = q) (hq : q < 1500) :
    ∃ R' : jM, f_X12_copy 2398 v w R = some R' ∧ Fr qV R R' ∧ jAI R' 2399 = upd (jAI R 2399) s (jAI R 2399 q) ∧ jAI R' 2400 = upd (jAI R 2400) s (jAI R 2400 q) ∧ (∀ j : Nat, jAL R' 2401 j = if 12 * s ≤ j ∧ j < 12 * s + 12 then jAL R 2401 (12 * q + (j - 12 * s)) else jAL R 2401 j) ∧ (∀ j : Nat, jAD R' 2402 j = if 12 * s ≤ j ∧ j < 12 * s + 12 then jAD R 2402 (12 * q + (j - 12 * s)) else jAD R 2402 j) := by
  unfold f_X12_copy
  have hcl : v.toNatClampNeg = s := by rw [i_cl]; omega
  have hcm : w.toNatClampNeg = q := by rw [i_cl]; omega
  have hA1 : jA 2399 13 v = true := jA_iff.mpr ⟨k_2399, by omega, by rw [ln_2399]; omega⟩
  have hA2 : jA 2400 13 v = true := jA_iff.mpr ⟨k_2400, by omega, by rw [ln_2400]; omega⟩
  have hA3 : jA 2399 13 w = true := jA_iff.mpr ⟨k_2399, by omega, by rw [ln_2399]; omega⟩
  have hA4 : jA 2400 13 w = true := jA_iff.mpr ⟨k_2400, by omega, by rw [ln_2400]; omega⟩
  have hF : Fr qV R (jrI (jrI R 2399 (upd (jAI R 2399) s (jAI R 2399 q))) 2400 (upd (jAI R 2400) s (jAI R 2400 q))) := ((Fr.refl).rI (by unfold qV; omega)).rI (by unfold qV; omega)
  obtain ⟨R', g1, g2, g3, g4, g5⟩ := copy_loop hv hs hw hq 12 1100000 _ 0 (by omega) (by rw [t_0]; rfl) (by omega) (hR.frV hF)
  simp only [ly_88 hR, ly_89 hR, k_2398, hA1, hA2, hA3, hA4, hcl, hcm, m_I_sI, m_L_sI, m_R_sI, m_AI_sI, m_AL_sI, m_AD_sI, m_AR_sI, m_n_sI, m_I_sL, m_L_sL, m_R_sL, m_AI_sL, m_AL_sL, m_AD_sL, m_AR_sL, m_n_sL, m_I_sR, m_L_sR, m_R_sR, m_AI_sR, m_AL_sR, m_AD_sR, m_AR_sR, m_n_sR, m_I_rI, m_L_rI, m_R_rI, m_AI_rI, m_AL_rI, m_AD_rI, m_AR_rI, m_n_rI, m_I_rL, m_L_rL, m_R_rL, m_AI_rL, m_AL_rL, m_AD_rL, m_AR_rL, m_n_rL, m_I_rD, m_L_rD, m_R_rD, m_AI_rD, m_AL_rD, m_AD_rD, m_AR_rD, m_n_rD, m_I_rR, m_L_rR, m_R_rR, m_AI_rR, m_AL_rR, m_AD_rR, m_AR_rR, m_n_rR, true_and, and_true, and_false, false_and, and_self, if_true, if_false, ite_self, Nat.reduceEqDiff, reduceIte, Option.bind_some, jlet, jbd_some, jbd_ite, bind_ite]
  exact ⟨R', g1, hF.trans g2, by rw [g3]; rfl, by rw [g3]; rfl, fun j => by rw [g4 j]; rfl, fun j => by rw [g5 j]; rfl⟩
/-- the class's -/
def pV (v : Nat) (t f a : Nat) : Prop := (t = 0 ∧ (f = 52 ∨ f = 53) ∧ a = v) ∨ (t = 3 ∧ a = v + 1)
theorem Lay.frW {C C' : jM} {v : Nat} (h : Lay C) (hk : jK v = 7) (hF : Fr (pV v) C C') : Lay C' := h.fr hF (fun f a z => by unfold pV at z; omega) (fun a z => by have := (kd_val hk).1; unfold pV at z; rcases z with z | z; omega; rw [z.2]; omega)
theorem setNumber_ok {C : jM} (hC : Lay C) {v : Nat} (hk : jK v = 7) (so : Int32) (b : Int64) : f_X9_setNumber v so b C = some (jrL (jsI (jsI C 52 v so) 53 v 0) (v + 1) (vp_updL (jAL C (v + 1)) 0 b)) := by
  unfold f_X9_setNumber
  have hA : jA (v + 1) 14 0 = true := jAz (kd_val hk).1 (by rw [(kd_val hk).2]; decide)
  simp only [hk, ly_v hC hk, hA, cl0, m_I_sI, m_L_sI, m_R_sI, m_AI_sI, m_AL_sI, m_AD_sI, m_AR_sI, m_n_sI, m_I_sL, m_L_sL, m_R_sL, m_AI_sL, m_AL_sL, m_AD_sL, m_AR_sL, m_n_sL, m_I_sR, m_L_sR, m_R_sR, m_AI_sR, m_AL_sR, m_AD_sR, m_AR_sR, m_n_sR, m_I_rI, m_L_rI, m_R_rI, m_AI_rI, m_AL_rI, m_AD_rI, m_AR_rI, m_n_rI, m_I_rL, m_L_rL, m_R_rL, m_AI_rL, m_AL_rL, m_AD_rL, m_AR_rL, m_n_rL, m_I_rD, m_L_rD, m_R_rD, m_AI_rD, m_AL_rD, m_AD_rD, m_AR_rD, m_n_rD, m_I_rR, m_L_rR, m_R_rR, m_AI_rR, m_AL_rR, m_AD_rR, m_AR_rR, m_n_rR, true_and, and_true, and_false, false_and, and_self, if_true, if_false, ite_self, Nat.reduceEqDiff, reduceIte, Option.bind_some, jlet, jbd_some, jbd_ite, bind_ite]
theorem setNumber_fr {C : jM} {v : Nat} {so : Int32} {b : Int64} : Fr (pV v) C (jrL (jsI (jsI C 52 v so) 53 v 0) (v + 1) (vp_updL (jAL C (v + 1)) 0 b)) := (((Fr.refl).sI (by unfold pV; omega)).sI (by unfold pV; omega)).rL (by unfold pV; omega)
theorem setTo_ok {C : jM} (hC : Lay C) {v w : Nat} (hk : jK v = 7) (hw : jK w = 7) : f_X9_setTo v w C = some (jrL (jsI (jsI C 52 v (jI C 52 w)) 53 v (jI (jsI C 52 v (jI C 52 w)) 53 w)) (v + 1) (va_cpy (jAL C (w + 1)) (jAL C (v + 1)) 0 0 12)) := by
  unfold f_X9_setTo
  have hj : jcp (0 : Int32) (0 : Int32) (12 : Int32) 12 12 = true := by decide
  simp only [hk, hw, ly_v hC hk, ly_v hC hw, (kd_val hk).1, (kd_val hw).1, (kd_val hk).2, (kd_val hw).2, hj, cl0, show ((12 : Int32)).toNatClampNeg = 12 from rfl, m_R_sI, m_AL_sI, true_and, and_true, and_false, false_and, and_self, if_true, if_false, ite_self, Nat.reduceEqDiff, reduceIte, Option.bind_some, jlet, jbd_some, jbd_ite, bind_ite]
theorem fillL_loop {r : Nat} (hr : jK r = 14) {n : Nat} (hn : jLen r = n) (h31 : n < 2147483648) (b : Int64) : ∀ (k fuel : Nat) (C : jM) (i e : Int32), k < fuel → e.toInt = n → i.toInt = (n : Int) - k → k ≤ n →
    ∃ C' : jM, f_J7_fill_d0a16_6 fuel r b i e C = some C' ∧ Fr (fun t f a => t = 3 ∧ a = r) C C' ∧ ∀ j : Nat, jAL C' r j = if n - k ≤ j ∧ j < n then b else jAL C r j := by
  intro k
  induction k with
  | zero =>
    intro fuel C i e hf he hi hk
    obtain ⟨m, rfl⟩ : ∃ m, fuel = m + 1 := ⟨fuel - 1, by omega⟩
    unfold f_J7_fill_d0a16_6
    rw [if_pos (by rw [i_le]; omega)]
    exact ⟨C, rfl, Fr.refl, fun j => by rw [if_neg (by omega)]⟩
  | succ k ih =>
    intro fuel C i e hf he hi hk
    obtain ⟨m, rfl⟩ : ∃ m, fuel = m + 1 := ⟨fuel - 1, by omega⟩
    unfold f_J7_fill_d0a16_6
    rw [if_neg (by rw [i_le]; omega)]
    have hA : jA r 14 i = true := jA_iff.mpr ⟨hr, by omega, by rw [hn]; omega⟩
    obtain ⟨C', g1, g2, g3⟩ := ih m (jrL C r (vp_updL (jAL C r) i.toNatClampNeg b)) (i + 1) e (by omega) he (by rw [i_add1 (by omega)]; omega) (by omega)
    simp only [hA, m_I_sI, m_L_sI, m_R_sI, m_AI_sI, m_AL_sI, m_AD_sI, m_AR_sI, m_n_sI, m_I_sL, m_L_sL, m_R_sL, m_AI_sL, m_AL_sL, m_AD_sL, m_AR_sL, m_n_sL, m_I_sR, m_L_sR, m_R_sR, m_AI_sR, m_AL_sR, m_AD_sR, m_AR_sR, m_n_sR, m_I_rI, m_L_rI, m_R_rI, m_AI_rI, m_AL_rI, m_AD_rI, m_AR_rI, m_n_rI, m_I_rL, m_L_rL, m_R_rL, m_AI_rL, m_AL_rL, m_AD_rL, m_AR_rL, m_n_rL, m_I_rD, m_L_rD, m_R_rD, m_AI_rD, m_AL_rD, m_AD_rD, m_AR_rD, m_n_rD, m_I_rR, m_L_rR, m_R_rR, m_AI_rR, m_AL_rR, m_AD_rR, m_AR_rR, m_n_rR, true_and, and_true, and_false, false_and, and_self, if_true, if_false, ite_self, Nat.reduceEqDiff, reduceIte, Option.bind_some, jlet, jbd_some, jbd_ite, bind_ite]
    refine ⟨C', g1, ((Fr.refl).rL ⟨rfl, rfl⟩).trans g2, fun j => ?_⟩
    · rw [g3 j]
      simp only [m_I_sI, m_L_sI, m_R_sI, m_AI_sI, m_AL_sI, m_AD_sI, m_AR_sI, m_n_sI, m_I_sL, m_L_sL, m_R_sL, m_AI_sL, m_AL_sL, m_AD_sL, m_AR_sL, m_n_sL, m_I_sR, m_L_sR, m_R_sR, m_AI_sR, m_AL_sR, m_AD_sR, m_AR_sR, m_n_sR, m_I_rI, m_L_rI, m_R_rI, m_AI_rI, m_AL_rI, m_AD_rI, m_AR_rI, m_n_rI, m_I_rL, m_L_rL, m_R_rL, m_AI_rL, m_AL_rL, m_AD_rL, m_AR_rL, m_n_rL, m_I_rD, m_L_rD, m_R_rD, m_AI_rD, m_AL_rD, m_AD_rD, m_AR_rD, m_n_rD, m_I_rR, m_L_rR, m_R_rR, m_AI_rR, m_AL_rR, m_AD_rR, m_AR_rR, m_n_rR, true_and, and_true, and_false, false_and, and_self, if_true, if_false, ite_self, Nat.reduceEqDiff, reduceIte, Option.bind_some, jlet, jbd_some, jbd_ite, bind_ite, updL_if]
      by_cases q : j = i.toNatClampNeg
      · rw [if_pos q, i_cl] at *
        rw [if_pos (show n - (k + 1) ≤ j ∧ j < n by omega)]
        split <;> rfl
      · rw [if_neg q]
        rw [i_cl] at q
        by_cases q2 : n - k ≤ j ∧ j < n
        · rw [if_pos q2, if_pos (show n - (k + 1) ≤ j ∧ j < n by omega)]
        · rw [if_neg q2, if_neg (show ¬ (n - (k + 1) ≤ j ∧ j < n) by omega)]
theorem setRow_ok {C : jM} (hC : Lay C) {v : Nat} (hk : jK v = 7) (so n : Int32) :
    ∃ C' : jM, f_X9_setRow v so n C = some C' ∧ Fr (pV v) C C' ∧ jI C' 52 v = so ∧ jI C' 53 v = n ∧ ∀ j : Nat, j < 12 → jAL C' (v + 1) j = if so.toInt < 5 then 0 else -1 := by
  have h14 := (kd_val hk).1
  have hl := (kd_val hk).2
  have hgo : ∀ b : Int64, ∃ C' : jM, f_X9_setRow_26 (v + 1) b (jsI (jsI C 52 v so) 53 v n) = some C' ∧ Fr (pV v) C C' ∧ jI C' 52 v = so ∧ jI C' 53 v = n ∧ ∀ j : Nat, j < 12 → jAL C' (v + 1) j = b := by
    intro b
    obtain ⟨C', g1, g2, g3⟩ := fillL_loop h14 hl (by decide) b 12 1100000 (jsI (jsI C 52 v so) 53 v n) 0 (Int32.ofNat 12) (by omega) (by decide) (by rw [t_0]; rfl) (by omega)
    unfold f_X9_setRow_26 f_J7_fill_d0a16
    simp only [h14, hl, g1, true_and, and_true, and_false, false_and, and_self, if_true, if_false, ite_self, Nat.reduceEqDiff, reduceIte, Option.bind_some, jlet, jbd_some, jbd_ite, bind_ite]
    refine ⟨C', rfl, (((Fr.refl).sI (by unfold pV; omega)).sI (by unfold pV; omega)).trans (g2.mono (fun t f a z => by unfold pV; omega)), ?_, ?_, fun j hj => by rw [g3 j, if_pos (by omega)]⟩
    · rw [g2.i (by omega)]; simp only [m_I_sI, m_L_sI, m_R_sI, m_AI_sI, m_AL_sI, m_AD_sI, m_AR_sI, m_n_sI, m_I_sL, m_L_sL, m_R_sL, m_AI_sL, m_AL_sL, m_AD_sL, m_AR_sL, m_n_sL, m_I_sR, m_L_sR, m_R_sR, m_AI_sR, m_AL_sR, m_AD_sR, m_AR_sR, m_n_sR, m_I_rI, m_L_rI, m_R_rI, m_AI_rI, m_AL_rI, m_AD_rI, m_AR_rI, m_n_rI, m_I_rL, m_L_rL, m_R_rL, m_AI_rL, m_AL_rL, m_AD_rL, m_AR_rL, m_n_rL, m_I_rD, m_L_rD, m_R_rD, m_AI_rD, m_AL_rD, m_AD_rD, m_AR_rD, m_n_rD, m_I_rR, m_L_rR, m_R_rR, m_AI_rR, m_AL_rR, m_AD_rR, m_AR_rR, m_n_rR, true_and, and_true, and_false, false_and, and_self, if_true, if_false, ite_self, Nat.reduceEqDiff, reduceIte, Option.bind_some, jlet, jbd_some, jbd_ite, bind_ite]
    · rw [g2.i (by omega)]; simp only [m_I_sI, m_L_sI, m_R_sI, m_AI_sI, m_AL_sI, m_AD_sI, m_AR_sI, m_n_sI, m_I_sL, m_L_sL, m_R_sL, m_AI_sL, m_AL_sL, m_AD_sL, m_AR_sL, m_n_sL, m_I_sR, m_L_sR, m_R_sR, m_AI_sR, m_AL_sR, m_AD_sR, m_AR_sR, m_n_sR, m_I_rI, m_L_rI, m_R_rI, m_AI_rI, m_AL_rI, m_AD_rI, m_AR_rI, m_n_rI, m_I_rL, m_L_rL, m_R_rL, m_AI_rL, m_AL_rL, m_AD_rL, m_AR_rL, m_n_rL, m_I_rD, m_L_rD, m_R_rD, m_AI_rD, m_AL_rD, m_AD_rD, m_AR_rD, m_n_rD, m_I_rR, m_L_rR, m_R_rR, m_AI_rR, m_AL_rR, m_AD_rR, m_AR_rR, m_n_rR, true_and, and_true, and_false, false_and, and_self, if_true, if_false, ite_self, Nat.reduceEqDiff, reduceIte, Option.bind_some, jlet, jbd_some, jbd_ite, bind_ite]
  unfold f_X9_setRow
  simp only [hk, ly_v hC hk, m_I_sI, m_L_sI, m_R_sI, m_AI_sI, m_AL_sI, m_AD_sI, m_AR_sI, m_n_sI, m_I_sL, m_L_sL, m_R_sL, m_AI_sL, m_AL_sL, m_AD_sL, m_AR_sL, m_n_sL, m_I_sR, m_L_sR, m_R_sR, m_AI_sR, m_AL_sR, m_AD_sR, m_AR_sR, m_n_sR, m_I_rI, m_L_rI, m_R_rI, m_AI_rI, m_AL_rI, m_AD_rI, m_AR_rI, m_n_rI, m_I_rL, m_L_rL, m_R_rL, m_AI_rL, m_AL_rL, m_AD_rL, m_AR_rL, m_n_rL, m_I_rD, m_L_rD, m_R_rD, m_AI_rD, m_AL_rD, m_AD_rD, m_AR_rD, m_n_rD, m_I_rR, m_L_rR, m_R_rR, m_AI_rR, m_AL_rR, m_AD_rR, m_AR_rR, m_n_rR, true_and, and_true, and_false, false_and, and_self, if_true, if_false, ite_self, Nat.reduceEqDiff, reduceIte, Option.bind_some, jlet, jbd_some, jbd_ite, bind_ite, i_lt, Int32.reduceToInt]
  by_cases c : so.toInt < 5
  · rw [if_pos c]
    obtain ⟨C', g1, g2, g3, g4, g5⟩ := hgo 0
    exact ⟨C', g1, g2, g3, g4, fun j hj => by rw [g5 j hj, if_pos c]⟩
  · rw [if_neg c]
    obtain ⟨C', g1, g2, g3, g4, g5⟩ := hgo (-1)
    exact ⟨C', g1, g2, g3, g4, fun j hj => by rw [g5 j hj, if_neg c]⟩
theorem d0_can : vcan 0 := by unfold vcan; decide
theorem q_desk {C R : jM} (hC : Lay C) (hR : Lay R) (h : Rel C R) (so n : Int32) : Sim (f_X11_desk 0 so n) (f_X12_desk 2398 so n) C R := by
  unfold Sim f_X11_desk f_X12_desk f_X11_desk_24 f_X12_desk_27
  by_cases c : 0 ≤ so.toInt ∧ so.toInt ≤ 7
  · by_cases c2 : 0 ≤ n.toInt ∧ n.toInt ≤ (if so.toInt < 2 then 0 else 12)
    · have c3 : n.toInt ≤ 12 := by split at c2 <;> omega
      obtain ⟨R', g1, hG, g3, g4, g5, g6⟩ := shape_ok hR (v := 0) (so := so) (n := n) (s := 0) (by rw [t_0]; rfl) (by decide)
      have hkin : f_X12_isKin so = 0 ↔ so.toInt < 5 := by rw [p_isKin]; omega
      have hgo : ∃ C' : jM, (if so.toInt < 2 then f_X9_setNumber 605 so 0 C else f_X9_setRow 605 so n C) = some C' ∧ Fr (pV 605) C C' ∧ jI C' 52 605 = so ∧ jI C' 53 605 = n ∧ ∀ j : Nat, (j : Int) < vlen so n → jAL C' 606 j = if so.toInt < 5 then 0 else -1 := by
        by_cases c4 : so.toInt < 2
        · rw [if_pos c4, setNumber_ok hC k_605]
          rw [if_pos c4] at c2
          refine ⟨_, rfl, setNumber_fr, ?_, ?_, fun j hj => ?_⟩
          · rfl
          · show (0 : Int32) = n
            rw [i_eq, t_0]; omega
          · have hj0 : j = 0 := by unfold vlen at hj; rw [if_neg (by omega)] at hj; omega
            subst hj0
            simp only [m_I_sI, m_L_sI, m_R_sI, m_AI_sI, m_AL_sI, m_AD_sI, m_AR_sI, m_n_sI, m_I_sL, m_L_sL, m_R_sL, m_AI_sL, m_AL_sL, m_AD_sL, m_AR_sL, m_n_sL, m_I_sR, m_L_sR, m_R_sR, m_AI_sR, m_AL_sR, m_AD_sR, m_AR_sR, m_n_sR, m_I_rI, m_L_rI, m_R_rI, m_AI_rI, m_AL_rI, m_AD_rI, m_AR_rI, m_n_rI, m_I_rL, m_L_rL, m_R_rL, m_AI_rL, m_AL_rL, m_AD_rL, m_AR_rL, m_n_rL, m_I_rD, m_L_rD, m_R_rD, m_AI_rD, m_AL_rD, m_AD_rD, m_AR_rD, m_n_rD, m_I_rR, m_L_rR, m_R_rR, m_AI_rR, m_AL_rR, m_AD_rR, m_AR_rR, m_n_rR, true_and, and_true, and_false, false_and, and_self, if_true, if_false, ite_self, Nat.reduceEqDiff, reduceIte, Option.bind_some, jlet, jbd_some, jbd_ite, bind_ite, updL_if]
            rw [if_pos (by omega)]
        · rw [if_neg c4]
          obtain ⟨C', k1, k2, k3, k4, k5⟩ := setRow_ok hC k_605 so n
          exact ⟨C', k1, k2, k3, k4, fun j hj => k5 j (by unfold vlen at hj; split at hj <;> omega)⟩
      obtain ⟨C', k1, hF, k3, k4, k5⟩ := hgo
      have hD : rD C' R' := by
        unfold rD VR VV
        rw [k3, k4, g3, g4]
        refine ⟨rfl, rfl, ⟨c.1, by omega, c2.1, c3, fun z => ?_⟩, fun j hj => ?_⟩
        · rw [if_pos (by omega)] at c2; omega
        · have hj12 : j < 12 := by unfold vlen at hj; split at hj <;> omega
          have e1 := k5 j hj
          have e2 := g5 (12 * 0 + j)
          have e3 := g6 (12 * 0 + j)
          rw [if_pos (by omega)] at e2 e3
          simp only [hkin] at e2
          unfold vitem
          dsimp only
          rw [show jAL C' (605 + 1) j = jAL C' 606 j from rfl, e1, e2, e3]
          by_cases c5 : so.toInt = 1 ∨ so.toInt = 4
          · rw [if_pos c5, if_pos (by omega)]
            exact ⟨rfl, d0_can⟩
          · rw [if_neg c5]
            refine ⟨rfl, fun z => ?_, fun z => by omega⟩
            rw [if_neg (by omega)]
            have hn := (h.P.2.1)
            have : (jI C' 31 1) = jI C 31 1 := hF.i (by unfold pV; omega)
            rw [this]
            exact ⟨by decide, by rw [show (-1 : Int64).toInt = -1 from by decide]; omega⟩
      have hs : ∀ s, 1 ≤ s → s < 225 → sS R R' s := fun s h1 h2 => ⟨by rw [g3, upd_if, if_neg (by omega)], by rw [g4, upd_if, if_neg (by omega)], fun j hj => ⟨by rw [g5, if_neg (by omega)], by rw [g6, if_neg (by omega)]⟩⟩
      by_cases c4 : so.toInt < 2
      · rw [if_pos c4] at k1 c2
        simp only [ly_70 hC, k_0, k_605, k_2398, in0, i_le, i_lt, i2l_toInt, Int32.reduceToInt, Int64.reduceToInt, t_0, t_l0, t_m40, t_lm40, m_I_sI, m_L_sI, m_R_sI, m_AI_sI, m_AL_sI, m_AD_sI, m_AR_sI, m_n_sI, m_I_sL, m_L_sL, m_R_sL, m_AI_sL, m_AL_sL, m_AD_sL, m_AR_sL, m_n_sL, m_I_sR, m_L_sR, m_R_sR, m_AI_sR, m_AL_sR, m_AD_sR, m_AR_sR, m_n_sR, m_I_rI, m_L_rI, m_R_rI, m_AI_rI, m_AL_rI, m_AD_rI, m_AR_rI, m_n_rI, m_I_rL, m_L_rL, m_R_rL, m_AI_rL, m_AL_rL, m_AD_rL, m_AR_rL, m_n_rL, m_I_rD, m_L_rD, m_R_rD, m_AI_rD, m_AL_rD, m_AD_rD, m_AR_rD, m_n_rD, m_I_rR, m_L_rR, m_R_rR, m_AI_rR, m_AL_rR, m_AD_rR, m_AR_rR, m_n_rR, true_and, and_true, and_false, false_and, and_self, if_true, if_false, ite_self, Nat.reduceEqDiff, reduceIte, Option.bind_some, jlet, jbd_some, jbd_ite, bind_ite]
        rw [if_neg (by omega), if_pos (by omega), if_pos c4, if_neg (by omega), if_pos (by omega), if_pos c4, if_neg (by omega), if_neg (by omega), if_neg (by omega)]
        simp only [if_pos c4, k1, g1, true_and, and_true, and_false, false_and, and_self, if_true, if_false, ite_self, Nat.reduceEqDiff, reduceIte, Option.bind_some, jlet, jbd_some, jbd_ite, bind_ite]
        have hx : ∀ t, t < 33 → sX R (R') t := fun t _ => hG.sX (fun a _ _ => by unfold qV; omega) t
        refine ⟨_, _, _, rfl, rfl, ?_, hF.mono (fun t f a z => by have := k16 a; unfold pC; unfold pV at z; omega), hG.mono (fun t f a z => by have := k16r a; unfold pR; unfold qV at z; omega)⟩
        exact ⟨rT_f hF hG (fun t f a => by unfold pV; unfold cT; omega) (fun t f a => by unfold qV; unfold mT; omega) h.T,
            rN_f hF hG (fun t f a => by unfold pV; unfold cN; omega) (fun t f a => by unfold qV; unfold mN; omega) h.N,
            rP_f hF hG (fun t f a => by unfold pV; unfold cP; omega) (fun t f a => by unfold qV; unfold mP; omega) h.P,
            hD,
            rF_f hF hG (fun t f a => by unfold pV; unfold cF; omega) (fun t f a => by unfold qV; unfold mF; omega) (fun s h1 h2 => hs s (by omega) (by omega)) h.F,
            rU_f hF hG (fun t f a => by unfold pV; unfold cU; omega) (fun t f a => by unfold qV; unfold mU; omega) h.U,
            rA_f hF hG (fun t f a => by unfold pV; unfold cA; omega) (fun t f a => by unfold qV; unfold mA; omega) h.A,
            rY_f hF hG (fun t f a => by unfold pV; unfold cY; omega) (fun t f a => by unfold qV; unfold mY; omega) h.Y,
            rR_f hF hG (fun t f a => by unfold pV; unfold cR; omega) (fun t f a => by unfold qV; unfold mR; omega) h.R,
            rS_f hF hG (fun t f a => by unfold pV; unfold cS; omega) (fun t f a => by unfold qV; unfold mS; omega) (fun s h1 h2 => hs s (by omega) (by omega)) h.S,
            rE_f hF hG (fun t f a => by unfold pV; unfold cE; omega) (fun t f a => by unfold qV; unfold mE; omega) (fun t _ => hx t (by omega)) h.E⟩
      · rw [if_neg c4] at k1 c2
        simp only [ly_70 hC, k_0, k_605, k_2398, in0, i_le, i_lt, i2l_toInt, Int32.reduceToInt, Int64.reduceToInt, t_0, t_l0, t_m40, t_lm40, m_I_sI, m_L_sI, m_R_sI, m_AI_sI, m_AL_sI, m_AD_sI, m_AR_sI, m_n_sI, m_I_sL, m_L_sL, m_R_sL, m_AI_sL, m_AL_sL, m_AD_sL, m_AR_sL, m_n_sL, m_I_sR, m_L_sR, m_R_sR, m_AI_sR, m_AL_sR, m_AD_sR, m_AR_sR, m_n_sR, m_I_rI, m_L_rI, m_R_rI, m_AI_rI, m_AL_rI, m_AD_rI, m_AR_rI, m_n_rI, m_I_rL, m_L_rL, m_R_rL, m_AI_rL, m_AL_rL, m_AD_rL, m_AR_rL, m_n_rL, m_I_rD, m_L_rD, m_R_rD, m_AI_rD, m_AL_rD, m_AD_rD, m_AR_rD, m_n_rD, m_I_rR, m_L_rR, m_R_rR, m_AI_rR, m_AL_rR, m_AD_rR, m_AR_rR, m_n_rR, true_and, and_true, and_false, false_and, and_self, if_true, if_false, ite_self, Nat.reduceEqDiff, reduceIte, Option.bind_some, jlet, jbd_some, jbd_ite, bind_ite]
        rw [if_neg (by omega), if_pos (by omega), if_neg c4, if_neg (by omega), if_pos (by omega), if_neg c4, if_neg (by omega), if_pos (by omega), if_neg (by omega)]
        simp only [if_neg c4, k1, g1, true_and, and_true, and_false, false_and, and_self, if_true, if_false, ite_self, Nat.reduceEqDiff, reduceIte, Option.bind_some, jlet, jbd_some, jbd_ite, bind_ite]
        have hx : ∀ t, t < 33 → sX R (R') t := fun t _ => hG.sX (fun a _ _ => by unfold qV; omega) t
        refine ⟨_, _, _, rfl, rfl, ?_, hF.mono (fun t f a z => by have := k16 a; unfold pC; unfold pV at z; omega), hG.mono (fun t f a z => by have := k16r a; unfold pR; unfold qV at z; omega)⟩
        exact ⟨rT_f hF hG (fun t f a => by unfold pV; unfold cT; omega) (fun t f a => by unfold qV; unfold mT; omega) h.T,
            rN_f hF hG (fun t f a => by unfold pV; unfold cN; omega) (fun t f a => by unfold qV; unfold mN; omega) h.N,
            rP_f hF hG (fun t f a => by unfold pV; unfold cP; omega) (fun t f a => by unfold qV; unfold mP; omega) h.P,
            hD,
            rF_f hF hG (fun t f a => by unfold pV; unfold cF; omega) (fun t f a => by unfold qV; unfold mF; omega) (fun s h1 h2 => hs s (by omega) (by omega)) h.F,
            rU_f hF hG (fun t f a => by unfold pV; unfold cU; omega) (fun t f a => by unfold qV; unfold mU; omega) h.U,
            rA_f hF hG (fun t f a => by unfold pV; unfold cA; omega) (fun t f a => by unfold qV; unfold mA; omega) h.A,
            rY_f hF hG (fun t f a => by unfold pV; unfold cY; omega) (fun t f a => by unfold qV; unfold mY; omega) h.Y,
            rR_f hF hG (fun t f a => by unfold pV; unfold cR; omega) (fun t f a => by unfold qV; unfold mR; omega) h.R,
            rS_f hF hG (fun t f a => by unfold pV; unfold cS; omega) (fun t f a => by unfold qV; unfold mS; omega) (fun s h1 h2 => hs s (by omega) (by omega)) h.S,
            rE_f hF hG (fun t f a => by unfold pV; unfold cE; omega) (fun t f a => by unfold qV; unfold mE; omega) (fun t _ => hx t (by omega)) h.E⟩
    · simp only [ly_70 hC, k_0, k_605, k_2398, in0, i_le, i_lt, i2l_toInt, Int32.reduceToInt, Int64.reduceToInt, t_0, t_l0, t_m40, t_lm40, m_I_sI, m_L_sI, m_R_sI, m_AI_sI, m_AL_sI, m_AD_sI, m_AR_sI, m_n_sI, m_I_sL, m_L_sL, m_R_sL, m_AI_sL, m_AL_sL, m_AD_sL, m_AR_sL, m_n_sL, m_I_sR, m_L_sR, m_R_sR, m_AI_sR, m_AL_sR, m_AD_sR, m_AR_sR, m_n_sR, m_I_rI, m_L_rI, m_R_rI, m_AI_rI, m_AL_rI, m_AD_rI, m_AR_rI, m_n_rI, m_I_rL, m_L_rL, m_R_rL, m_AI_rL, m_AL_rL, m_AD_rL, m_AR_rL, m_n_rL, m_I_rD, m_L_rD, m_R_rD, m_AI_rD, m_AL_rD, m_AD_rD, m_AR_rD, m_n_rD, m_I_rR, m_L_rR, m_R_rR, m_AI_rR, m_AL_rR, m_AD_rR, m_AR_rR, m_n_rR, true_and, and_true, and_false, false_and, and_self, if_true, if_false, ite_self, Nat.reduceEqDiff, reduceIte, Option.bind_some, jlet, jbd_some, jbd_ite, bind_ite]
      by_cases c4 : so.toInt < 2
      · rw [if_pos c4] at c2
        rw [if_neg (by omega), if_pos (by omega), if_pos c4]
        by_cases c5 : n.toInt < 0
        · rw [if_pos c5, if_neg (by omega), if_neg (by omega), if_pos (by omega)]
          exact ⟨_, _, _, rfl, rfl, h.fr_self⟩
        · rw [if_neg c5, if_neg (by omega), if_neg (by omega), if_neg (by omega), if_pos (by omega)]
          exact ⟨_, _, _, rfl, rfl, h.fr_self⟩
      · rw [if_neg c4] at c2
        rw [if_neg (by omega), if_pos (by omega), if_neg c4]
        by_cases c5 : n.toInt < 0
        · rw [if_pos c5, if_neg (by omega), if_pos (by omega), if_pos (by omega)]
          exact ⟨_, _, _, rfl, rfl, h.fr_self⟩
        · rw [if_neg c5, if_neg (by omega), if_neg (by omega), if_pos (by omega), if_pos (by omega)]
          exact ⟨_, _, _, rfl, rfl, h.fr_self⟩
  · simp only [ly_70 hC, k_0, k_605, k_2398, in0, i_le, i_lt, i2l_toInt, Int32.reduceToInt, Int64.reduceToInt, t_0, t_l0, t_m40, t_lm40, m_I_sI, m_L_sI, m_R_sI, m_AI_sI, m_AL_sI, m_AD_sI, m_AR_sI, m_n_sI, m_I_sL, m_L_sL, m_R_sL, m_AI_sL, m_AL_sL, m_AD_sL, m_AR_sL, m_n_sL, m_I_sR, m_L_sR, m_R_sR, m_AI_sR, m_AL_sR, m_AD_sR, m_AR_sR, m_n_sR, m_I_rI, m_L_rI, m_R_rI, m_AI_rI, m_AL_rI, m_AD_rI, m_AR_rI, m_n_rI, m_I_rL, m_L_rL, m_R_rL, m_AI_rL, m_AL_rL, m_AD_rL, m_AR_rL, m_n_rL, m_I_rD, m_L_rD, m_R_rD, m_AI_rD, m_AL_rD, m_AD_rD, m_AR_rD, m_n_rD, m_I_rR, m_L_rR, m_R_rR, m_AI_rR, m_AL_rR, m_AD_rR, m_AR_rR, m_n_rR, true_and, and_true, and_false, false_and, and_self, if_true, if_false, ite_self, Nat.reduceEqDiff, reduceIte, Option.bind_some, jlet, jbd_some, jbd_ite, bind_ite]
    by_cases c3 : so.toInt < 0
    · rw [if_pos c3, if_pos (by omega)]
      exact ⟨_, _, _, rfl, rfl, h.fr_self⟩
    · rw [if_neg c3, if_neg (by omega), if_pos (by omega)]
      exact ⟨_, _, _, rfl, rfl, h.fr_self⟩

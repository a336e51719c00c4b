/-! PURE: seat -/
theorem l2i {p : Int64} (h1 : -2147483648 ≤ p.toInt) (h2 : p.toInt ≤ 2147483647) : p.toInt32.toInt = p.toInt := by
  rw [Int64.toInt_toInt32]
  exact Int.bmod_eq_of_le (by omega) (by omega)
theorem hasPerson_ok {C : jM} {p : Int64} : f_X6_hasPerson 1 p C = some (if 0 ≤ p.toInt ∧ p.toInt < (jI C 31 1).toInt then 1 else 0) := by
  unfold f_X6_hasPerson
  simp only [l_lt, l_le, i2l_toInt, t_l0, k_1, if_true]
  split
  · rw [if_neg (by omega)]
  · split
    · rw [if_neg (by omega)]
    · rw [if_pos (by omega)]
theorem belongs_eq {C R : jM} (hC : Lay C) (hR : Lay R) (hP : rP C R) {so : Int32} {p : Int64} (h1 : -1 ≤ p.toInt) (h2 : p.toInt < (jI C 31 1).toInt) : ∃ b : Int32, f_X6_belongs 1 so p C = some b ∧ f_X12_belongs 2398 p so R = some b := by
  obtain ⟨n1, n2, n3, n4⟩ := hP
  unfold f_X6_belongs f_X12_belongs f_X12_belongs_29 f_X12_belongs_32 f_X6_belongs_33
  simp only [hasPerson_ok, k_1, k_2398, ly_32 hC, ly_136 hR, t_if, l_lt, t_l0, true_and, and_true, and_false, false_and, and_self, if_true, if_false, ite_self, Nat.reduceEqDiff, reduceIte, Option.bind_some, jlet, jbd_some, jbd_ite, bind_ite]
  by_cases c : p.toInt < 0
  · simp only [if_pos c]
    rw [if_pos (show ¬ (0 ≤ p.toInt ∧ p.toInt < (jI C 31 1).toInt) by omega), ite_self]
    exact ⟨1, rfl, rfl⟩
  · have hp := l2i (p := p) (by omega) (by omega)
    have hA1 : jA 2 15 p.toInt32 = true := jA_iff.mpr ⟨k_2, by omega, by rw [ln_2]; omega⟩
    have hA2 : jA 2427 15 p.toInt32 = true := jA_iff.mpr ⟨k_2427, by omega, by rw [ln_2427]; omega⟩
    have he : jAI R 2427 p.toInt32.toNatClampNeg = jAI C 2 p.toInt32.toNatClampNeg := ((n4 p.toInt32.toNatClampNeg (by rw [i_cl]; omega)).1).symm
    rw [if_neg c, if_neg (show ¬ ¬ (0 ≤ p.toInt ∧ p.toInt < (jI C 31 1).toInt) by omega), he]
    simp only [hA1, hA2, if_true]
    repeat' split
    all_goals first | exact ⟨_, rfl, rfl⟩
theorem isKin_ok {C : jM} {v : Nat} (hk : jK v = 7) : f_X9_isKin v C = some (if 5 ≤ (jI C 52 v).toInt ∧ (jI C 52 v).toInt ≤ 7 then 1 else 0) := by
  unfold f_X9_isKin
  simp only [i_lt, Int32.reduceToInt, hk, if_true]
  split
  · rw [if_neg (by omega)]
  · split
    · rw [if_neg (by omega)]
    · rw [if_pos (by omega)]
theorem isRow_ok {C : jM} {v : Nat} (hk : jK v = 7) : f_X9_isRow v C = some (if 2 ≤ (jI C 52 v).toInt ∧ (jI C 52 v).toInt ≤ 7 then 1 else 0) := by
  unfold f_X9_isRow
  simp only [i_lt, Int32.reduceToInt, hk, if_true]
  split
  · rw [if_neg (by omega)]
  · split
    · rw [if_neg (by omega)]
    · rw [if_pos (by omega)]
theorem isRowOfNumbers_ok {C : jM} {v : Nat} (hk : jK v = 7) : f_X9_isRowOfNumbers v C = some (if 2 ≤ (jI C 52 v).toInt ∧ (jI C 52 v).toInt ≤ 4 then 1 else 0) := by
  unfold f_X9_isRowOfNumbers
  simp only [i_lt, Int32.reduceToInt, hk, if_true]
  split
  · rw [if_neg (by omega)]
  · split
    · rw [if_neg (by omega)]
    · rw [if_pos (by omega)]
theorem isNumber_ok {C : jM} {v : Nat} (hk : jK v = 7) : f_X9_isNumber v C = some (if 0 ≤ (jI C 52 v).toInt ∧ (jI C 52 v).toInt ≤ 1 then 1 else 0) := by
  unfold f_X9_isNumber f_X9_isNumber_15
  simp only [i_eq, Int32.reduceToInt, hk, if_true]
  split
  · rw [if_pos (by omega)]
  · split
    · rw [if_pos (by omega)]
    · rw [if_neg (by omega)]
theorem hasItem_ok {C : jM} {v : Nat} (hk : jK v = 7) (hs : (jI C 53 v).toInt ≤ 12) {i : Int64} : f_X9_hasItem v i C = some (if 0 ≤ i.toInt ∧ i.toInt < (jI C 53 v).toInt then 1 else 0) := by
  unfold f_X9_hasItem
  simp only [l_lt, l_le, i2l_toInt, t_l0, Int64.reduceToInt, hk, if_true]
  split
  · rw [if_neg (by omega)]
  · split
    · rw [if_neg (by omega)]
    · rw [if_neg (by omega), if_pos (by omega)]
theorem VR_w {n : Int} {C C' R R' : jM} {v s i : Nat} {x : Int64} (h : VR n C v R s) (h1 : jI C' 52 v = jI C 52 v) (h2 : jI C' 53 v = jI C 53 v) (h3 : jAL C' (v + 1) = vp_updL (jAL C (v + 1)) i x) (h4 : jAI R' 2399 = jAI R 2399) (h5 : jAI R' 2400 = jAI R 2400)
    (h6 : jAL R' 2401 = vp_updL (jAL R 2401) (12 * s + i) x) (h7 : jAD R' 2402 = jAD R 2402) (hso : ¬ ((jI C 52 v).toInt = 1 ∨ (jI C 52 v).toInt = 4)) (hx : 5 ≤ (jI C 52 v).toInt → -1 ≤ x.toInt ∧ x.toInt < n) (hx8 : (jI C 52 v).toInt ≠ 8) : VR n C' v R' s := by
  obtain ⟨a1, a2, a3, a4⟩ := h
  unfold VR VV
  rw [h1, h2, h4, h5]
  refine ⟨a1, a2, a3, fun j hj => ?_⟩
  have := a4 j hj
  unfold vitem at *
  rw [if_neg hso] at *
  rw [h3, h6]
  dsimp only
  rw [updL_if, updL_if]
  by_cases e : j = i
  · subst e
    rw [if_pos rfl, if_pos rfl]
    exact ⟨rfl, hx, fun z => absurd z hx8⟩
  · rw [if_neg e, if_neg (by omega)]
    exact this
theorem seat_20 {C R : jM} (hC : Lay C) (hR : Lay R) (h : Rel C R) (i p : Int32) (hp : -1 ≤ p.toInt ∧ p.toInt < (jI C 31 1).toInt) : Sim (f_X11_seat_20 0 i p) (f_X12_seat_24 2398 i p) C R := by
  obtain ⟨d1, d2, ⟨d3, d4, d5, d6, d7⟩, d8⟩ := h.D
  unfold Sim f_X11_seat_20 f_X12_seat_24
  obtain ⟨b, hb1, hb2⟩ := belongs_eq hC hR h.P (so := jI C 52 605) (p := p.toInt64) (by rw [i2l_toInt]; omega) (by rw [i2l_toInt]; omega)
  have hA1 : jA 2399 13 0 = true := jAz k_2399 (by rw [ln_2399]; decide)
  have hA2 : jA 2400 13 0 = true := jAz k_2400 (by rw [ln_2400]; decide)
  have hs1 := i_sub1 (a := jI C 53 605) (by omega)
  simp only [ly_69 hC, ly_70 hC, ly_88 hR, ly_89 hR, ly_90 hR, k_0, k_1, k_605, k_2398, isKin_ok k_605, hasItem_ok k_605 d6, p_isKin, t_if, hb1, ← d1, ← d2, hb2, hs1, hA1, hA2, cl0, in0, i_le, i_lt, i2l_toInt, Int32.reduceToInt, Int64.reduceToInt, t_0, t_l0, t_m40, t_lm40, m_I_sI, m_L_sI, m_R_sI, m_AI_sI, m_AL_sI, m_AD_sI, m_AR_sI, m_n_sI, m_I_sL, m_L_sL, m_R_sL, m_AI_sL, m_AL_sL, m_AD_sL, m_AR_sL, m_n_sL, m_I_sR, m_L_sR, m_R_sR, m_AI_sR, m_AL_sR, m_AD_sR, m_AR_sR, m_n_sR, m_I_rI, m_L_rI, m_R_rI, m_AI_rI, m_AL_rI, m_AD_rI, m_AR_rI, m_n_rI, m_I_rL, m_L_rL, m_R_rL, m_AI_rL, m_AL_rL, m_AD_rL, m_AR_rL, m_n_rL, m_I_rD, m_L_rD, m_R_rD, m_AI_rD, m_AL_rD, m_AD_rD, m_AR_rD, m_n_rD, m_I_rR, m_L_rR, m_R_rR, m_AI_rR, m_AL_rR, m_AD_rR, m_AR_rR, m_n_rR, true_and, and_true, and_false, false_and, and_self, if_true, if_false, ite_self, Nat.reduceEqDiff, reduceIte, Option.bind_some, jlet, jbd_some, jbd_ite, bind_ite]
  by_cases c : 5 ≤ (jI C 52 605).toInt ∧ (jI C 52 605).toInt ≤ 7
  · by_cases c2 : 0 ≤ i.toInt ∧ i.toInt < (jI C 53 605).toInt
    · by_cases c3 : b = 0
      · rw [if_neg (by omega), if_neg (by omega), if_pos c3, if_neg (by omega), if_neg (by omega), if_pos c3]
        exact ⟨_, _, _, rfl, rfl, h.fr_self⟩
      · rw [if_neg (by omega), if_neg (by omega), if_neg c3, if_neg (by omega), if_neg (by omega), if_neg c3]
        obtain ⟨j, hj⟩ : ∃ j : Nat, (j : Int) = i.toInt := ⟨i.toInt.toNat, by omega⟩
        have hcl : i.toNatClampNeg = j := by rw [i_cl]; omega
        have hA3 : jA 606 14 i = true := jA_iff.mpr ⟨k_606, by omega, by rw [ln_606]; omega⟩
        have hA4 : jA 2401 14 i = true := jA_iff.mpr ⟨k_2401, by omega, by rw [ln_2401]; omega⟩
        have hset : f_X9_setBits 605 i p.toInt64 C = some (jrL C 606 (vp_updL (jAL C 606) j p.toInt64)) := by
          unfold f_X9_setBits f_X9_setBits_66
          rw [if_neg (by rw [i_lt, t_0]; omega), if_pos (by rw [i_lt, show (12 : Int32).toInt = 12 from rfl]; omega)]
          simp only [k_605, ly_v hC k_605, hA3, hcl, true_and, and_true, and_false, false_and, and_self, if_true, if_false, ite_self, Nat.reduceEqDiff, reduceIte, Option.bind_some, jlet, jbd_some, jbd_ite, bind_ite]
          rw [if_neg (by rw [i_eq, show (2 : Int32).toInt = 2 from rfl]; omega), if_neg (by rw [i_eq, show (1 : Int32).toInt = 1 from rfl]; omega), if_neg (by rw [i_eq, show (4 : Int32).toInt = 4 from rfl]; omega)]
        have hF : Fr (fun t f a => t = 3 ∧ a = 606) C (jrL C 606 (vp_updL (jAL C 606) j p.toInt64)) := Fr.refl.rL ⟨rfl, rfl⟩
        have hG : Fr (fun t f a => t = 3 ∧ a = 2401) R (jrL R 2401 (vp_updL (jAL R 2401) j p.toInt64)) := Fr.refl.rL ⟨rfl, rfl⟩
        have hs : ∀ s, 1 ≤ s → s < 225 → sS R (jrL R 2401 (vp_updL (jAL R 2401) j p.toInt64)) s := fun s h1 h2 => ⟨rfl, rfl, fun q hq => ⟨by simp only [m_I_sI, m_L_sI, m_R_sI, m_AI_sI, m_AL_sI, m_AD_sI, m_AR_sI, m_n_sI, m_I_sL, m_L_sL, m_R_sL, m_AI_sL, m_AL_sL, m_AD_sL, m_AR_sL, m_n_sL, m_I_sR, m_L_sR, m_R_sR, m_AI_sR, m_AL_sR, m_AD_sR, m_AR_sR, m_n_sR, m_I_rI, m_L_rI, m_R_rI, m_AI_rI, m_AL_rI, m_AD_rI, m_AR_rI, m_n_rI, m_I_rL, m_L_rL, m_R_rL, m_AI_rL, m_AL_rL, m_AD_rL, m_AR_rL, m_n_rL, m_I_rD, m_L_rD, m_R_rD, m_AI_rD, m_AL_rD, m_AD_rD, m_AR_rD, m_n_rD, m_I_rR, m_L_rR, m_R_rR, m_AI_rR, m_AL_rR, m_AD_rR, m_AR_rR, m_n_rR, true_and, and_true, and_false, false_and, and_self, if_true, if_false, ite_self, Nat.reduceEqDiff, reduceIte, Option.bind_some, jlet, jbd_some, jbd_ite, bind_ite, updL_if]; rw [if_neg (by omega)], rfl⟩⟩
        have hD : rD (jrL C 606 (vp_updL (jAL C 606) j p.toInt64)) (jrL R 2401 (vp_updL (jAL R 2401) j p.toInt64)) := VR_w (i := j) (x := p.toInt64) h.D rfl rfl rfl rfl rfl (by rw [show 12 * 0 + j = j from by omega]; rfl) rfl (by omega) (fun _ => by rw [i2l_toInt]; exact hp) (by omega)
        simp only [hset, hA4, hcl, true_and, and_true, and_false, false_and, and_self, if_true, if_false, ite_self, Nat.reduceEqDiff, reduceIte, Option.bind_some, jlet, jbd_some, jbd_ite, bind_ite]
        have hx : ∀ t, t < 33 → sX R (jrL R 2401 (vp_updL (jAL R 2401) j p.toInt64)) t := fun t _ => hG.sX (fun a _ _ => by omega) t
        refine ⟨_, _, _, rfl, rfl, ?_, hF.mono (fun t f a z => by have := k16 a; unfold pC; omega), hG.mono (fun t f a z => by have := k16r a; unfold pR; omega)⟩
        exact ⟨rT_f hF hG (fun t f a => by unfold cT; omega) (fun t f a => by unfold mT; omega) h.T,
            rN_f hF hG (fun t f a => by unfold cN; omega) (fun t f a => by unfold mN; omega) h.N,
            rP_f hF hG (fun t f a => by unfold cP; omega) (fun t f a => by unfold mP; omega) h.P,
            hD,
            rF_f hF hG (fun t f a => by unfold cF; omega) (fun t f a => by unfold mF; omega) (fun s h1 h2 => hs s (by omega) (by omega)) h.F,
            rU_f hF hG (fun t f a => by unfold cU; omega) (fun t f a => by unfold mU; omega) h.U,
            rA_f hF hG (fun t f a => by unfold cA; omega) (fun t f a => by unfold mA; omega) h.A,
            rY_f hF hG (fun t f a => by unfold cY; omega) (fun t f a => by unfold mY; omega) h.Y,
            rR_f hF hG (fun t f a => by unfold cR; omega) (fun t f a => by unfold mR; omega) h.R,
            rS_f hF hG (fun t f a => by unfold cS; omega) (fun t f a => by unfold mS; omega) (fun s h1 h2 => hs s (by omega) (by omega)) h.S,
            rE_f hF hG (fun t f a => by unfold cE; omega) (fun t f a => by unfold mE; omega) (fun t _ => hx t (by omega)) h.E⟩
    · rw [if_neg (by omega), if_pos (by omega), if_neg (by omega), if_pos (by omega)]
      exact ⟨_, _, _, rfl, rfl, h.fr_self⟩
  · rw [if_pos (by omega), if_pos (by omega)]
    exact ⟨_, _, _, rfl, rfl, h.fr_self⟩
theorem q_seat {C R : jM} (hC : Lay C) (hR : Lay R) (h : Rel C R) (i p : Int32) : Sim (f_X11_seat 0 i p) (f_X12_seat 2398 i p) C R := by
  have hP := h.P
  obtain ⟨n1, n2, n3, n4⟩ := hP
  have hs1 := i_sub1 (a := jI C 31 1) (by omega)
  by_cases c : p = -1
  · have := seat_20 hC hR h i p (by rw [c, t_m1]; omega)
    unfold Sim f_X11_seat f_X12_seat
    simp only [if_pos c]
    exact this
  · have cc : p.toInt ≠ -1 := fun e => c (by rw [i_eq, t_m1]; exact e)
    by_cases c2 : 0 ≤ p.toInt ∧ p.toInt < (jI C 31 1).toInt
    · have := seat_20 hC hR h i p (by omega)
      unfold Sim f_X11_seat f_X12_seat
      simp only [if_neg c, ly_69 hC, k_0, k_1, k_2398, hasPerson_ok, t_if, ← n1, hs1, in0, i_le, i_lt, i2l_toInt, Int32.reduceToInt, Int64.reduceToInt, t_0, t_l0, t_m40, t_lm40, m_I_sI, m_L_sI, m_R_sI, m_AI_sI, m_AL_sI, m_AD_sI, m_AR_sI, m_n_sI, m_I_sL, m_L_sL, m_R_sL, m_AI_sL, m_AL_sL, m_AD_sL, m_AR_sL, m_n_sL, m_I_sR, m_L_sR, m_R_sR, m_AI_sR, m_AL_sR, m_AD_sR, m_AR_sR, m_n_sR, m_I_rI, m_L_rI, m_R_rI, m_AI_rI, m_AL_rI, m_AD_rI, m_AR_rI, m_n_rI, m_I_rL, m_L_rL, m_R_rL, m_AI_rL, m_AL_rL, m_AD_rL, m_AR_rL, m_n_rL, m_I_rD, m_L_rD, m_R_rD, m_AI_rD, m_AL_rD, m_AD_rD, m_AR_rD, m_n_rD, m_I_rR, m_L_rR, m_R_rR, m_AI_rR, m_AL_rR, m_AD_rR, m_AR_rR, m_n_rR, true_and, and_true, and_false, false_and, and_self, if_true, if_false, ite_self, Nat.reduceEqDiff, reduceIte, Option.bind_some, jlet, jbd_some, jbd_ite, bind_ite]
      rw [if_neg (show ¬ ¬ (0 ≤ p.toInt ∧ p.toInt < (jI C 31 1).toInt) by omega), if_neg (show ¬ ¬ (0 ≤ p.toInt ∧ p.toInt ≤ (jI C 31 1).toInt - 1) by omega)]
      exact this
    · unfold Sim f_X11_seat f_X12_seat
      simp only [if_neg c, ly_69 hC, k_0, k_1, k_2398, hasPerson_ok, t_if, ← n1, hs1, in0, i_le, i_lt, i2l_toInt, Int32.reduceToInt, Int64.reduceToInt, t_0, t_l0, t_m40, t_lm40, m_I_sI, m_L_sI, m_R_sI, m_AI_sI, m_AL_sI, m_AD_sI, m_AR_sI, m_n_sI, m_I_sL, m_L_sL, m_R_sL, m_AI_sL, m_AL_sL, m_AD_sL, m_AR_sL, m_n_sL, m_I_sR, m_L_sR, m_R_sR, m_AI_sR, m_AL_sR, m_AD_sR, m_AR_sR, m_n_sR, m_I_rI, m_L_rI, m_R_rI, m_AI_rI, m_AL_rI, m_AD_rI, m_AR_rI, m_n_rI, m_I_rL, m_L_rL, m_R_rL, m_AI_rL, m_AL_rL, m_AD_rL, m_AR_rL, m_n_rL, m_I_rD, m_L_rD, m_R_rD, m_AI_rD, m_AL_rD, m_AD_rD, m_AR_rD, m_n_rD, m_I_rR, m_L_rR, m_R_rR, m_AI_rR, m_AL_rR, m_AD_rR, m_AR_rR, m_n_rR, true_and, and_true, and_false, false_and, and_self, if_true, if_false, ite_self, Nat.reduceEqDiff, reduceIte, Option.bind_some, jlet, jbd_some, jbd_ite, bind_ite]
      rw [if_pos (by omega), if_pos (by omega)]
      exact ⟨_, _, _, rfl, rfl, h.fr_self⟩

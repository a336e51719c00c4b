/-! PURE: acts on rows: last, join -/
theorem nJ_add {a b : Nat} (h : a + b < 2147483648) : nI a + nI b = nI (a + b) := by
  rw [i_eq, i_add (by rw [nI_toInt (by omega), nI_toInt (by omega)]; omega) (by rw [nI_toInt (by omega), nI_toInt (by omega)]; omega), nI_toInt (by omega), nI_toInt (by omega), nI_toInt (by omega)]; omega
theorem nJ_sub {a b : Nat} (h : a < 2147483648) (hb : b ≤ a) : nI a - nI b = nI (a - b) := by
  rw [i_eq, i_sub (by rw [nI_toInt (by omega), nI_toInt (by omega)]; omega) (by rw [nI_toInt (by omega), nI_toInt (by omega)]; omega), nI_toInt (by omega), nI_toInt (by omega), nI_toInt (by omega)]; omega
theorem nJ_1 {a : Nat} (h : a + 1 < 2147483648) : nI a + (1 : Int32) = nI (a + 1) := nJ_add h
theorem nJ_le {a b : Nat} (ha : a < 2147483648) (hb : b < 2147483648) : nI a ≤ nI b ↔ a ≤ b := by rw [i_le, nI_toInt ha, nI_toInt hb]; omega
theorem nJ_lt {a b : Nat} (ha : a < 2147483648) (hb : b < 2147483648) : nI a < nI b ↔ a < b := by rw [i_lt, nI_toInt ha, nI_toInt hb]; omega
theorem nJ_cl {a : Nat} (h : a < 2147483648) : (nI a).toNatClampNeg = a := by rw [i_cl, nI_toInt h]; rfl
theorem jA_n {r k i : Nat} (hk : jK r = k) (hi : i < jLen r) (h : i < 2147483648) : jA r k (nI i) = true := jA_iff.mpr ⟨hk, by rw [nI_toInt h]; omega, by rw [nI_toInt h]; omega⟩
theorem sz_n {so sz : Int32} (h : vshape so sz) : ∃ z : Nat, z ≤ 12 ∧ sz = nI z := ⟨sz.toInt.toNat, by have := h.2.2.2.1; omega, by have := h.2.2.1; have := h.2.2.2.1; rw [i_eq, nI_toInt (by omega)]; omega⟩
theorem last_loop {a : Nat} (ka : jK a = 7) {N Z : Nat} (hNZ : N ≤ Z) (hZ : Z ≤ 12) {b0 : Nat → Int64} : ∀ (k fuel : Nat) (C : jM) (t : Nat), k < fuel → t + k = N → Lay C → jI C 53 a = nI Z → (∀ z, jAL C (a + 1) z = if z < t then b0 (Z - N + z) else b0 z) →
    ∃ C' : jM, f_X3_last_56 fuel a (nI N) (nI t) C = some (0, C') ∧ Fr (pV a) C C' ∧ jI C' 53 a = nI N ∧ jI C' 52 a = jI C 52 a ∧ ∀ z, jAL C' (a + 1) z = if z < N then b0 (Z - N + z) else b0 z := by
  intro k
  induction k with
  | zero =>
    intro fuel C t hf ht hC h53 hb
    obtain ⟨m, rfl⟩ : ∃ m, fuel = m + 1 := ⟨fuel - 1, by omega⟩
    have e : t = N := by omega
    subst e
    rw [f_X3_last_56, if_pos (by rw [nJ_le (by omega) (by omega)]; omega), if_pos ka, jlt]
    refine ⟨_, rfl, (Fr.refl).sI (by unfold pV; omega), ?_, ?_, fun z => ?_⟩
    · simp only [m_I_sI, m_L_sI, m_R_sI, m_AI_sI, m_AL_sI, m_AD_sI, m_AR_sI, m_n_sI, m_I_sL, m_L_sL, m_R_sL, m_AI_sL, m_AL_sL, m_AD_sL, m_AR_sL, m_n_sL, m_I_sR, m_L_sR, m_R_sR, m_AI_sR, m_AL_sR, m_AD_sR, m_AR_sR, m_n_sR, m_I_rI, m_L_rI, m_R_rI, m_AI_rI, m_AL_rI, m_AD_rI, m_AR_rI, m_n_rI, m_I_rL, m_L_rL, m_R_rL, m_AI_rL, m_AL_rL, m_AD_rL, m_AR_rL, m_n_rL, m_I_rD, m_L_rD, m_R_rD, m_AI_rD, m_AL_rD, m_AD_rD, m_AR_rD, m_n_rD, m_I_rR, m_L_rR, m_R_rR, m_AI_rR, m_AL_rR, m_AD_rR, m_AR_rR, m_n_rR, true_and, and_true, and_false, false_and, and_self, if_true, if_false, ite_self, Nat.reduceEqDiff, reduceIte, obt, jlt, jbt, jbd_ite, bind_ite]
    · simp only [m_I_sI, m_L_sI, m_R_sI, m_AI_sI, m_AL_sI, m_AD_sI, m_AR_sI, m_n_sI, m_I_sL, m_L_sL, m_R_sL, m_AI_sL, m_AL_sL, m_AD_sL, m_AR_sL, m_n_sL, m_I_sR, m_L_sR, m_R_sR, m_AI_sR, m_AL_sR, m_AD_sR, m_AR_sR, m_n_sR, m_I_rI, m_L_rI, m_R_rI, m_AI_rI, m_AL_rI, m_AD_rI, m_AR_rI, m_n_rI, m_I_rL, m_L_rL, m_R_rL, m_AI_rL, m_AL_rL, m_AD_rL, m_AR_rL, m_n_rL, m_I_rD, m_L_rD, m_R_rD, m_AI_rD, m_AL_rD, m_AD_rD, m_AR_rD, m_n_rD, m_I_rR, m_L_rR, m_R_rR, m_AI_rR, m_AL_rR, m_AD_rR, m_AR_rR, m_n_rR]; rw [if_neg (by omega)]
    · simp only [m_I_sI, m_L_sI, m_R_sI, m_AI_sI, m_AL_sI, m_AD_sI, m_AR_sI, m_n_sI, m_I_sL, m_L_sL, m_R_sL, m_AI_sL, m_AL_sL, m_AD_sL, m_AR_sL, m_n_sL, m_I_sR, m_L_sR, m_R_sR, m_AI_sR, m_AL_sR, m_AD_sR, m_AR_sR, m_n_sR, m_I_rI, m_L_rI, m_R_rI, m_AI_rI, m_AL_rI, m_AD_rI, m_AR_rI, m_n_rI, m_I_rL, m_L_rL, m_R_rL, m_AI_rL, m_AL_rL, m_AD_rL, m_AR_rL, m_n_rL, m_I_rD, m_L_rD, m_R_rD, m_AI_rD, m_AL_rD, m_AD_rD, m_AR_rD, m_n_rD, m_I_rR, m_L_rR, m_R_rR, m_AI_rR, m_AL_rR, m_AD_rR, m_AR_rR, m_n_rR]; exact hb z
  | succ k ih =>
    intro fuel C t hf ht hC h53 hb
    obtain ⟨m, rfl⟩ : ∃ m, fuel = m + 1 := ⟨fuel - 1, by omega⟩
    have kl := kd_val ka
    have h1 : (nI Z - nI N) + nI t = nI (Z - N + t) := by rw [nJ_sub (by omega) hNZ, nJ_add (by omega)]
    have A1 : jA (a + 1) 14 (nI (Z - N + t)) = true := jA_n kl.1 (by rw [kl.2]; omega) (by omega)
    have A2 : jA (a + 1) 14 (nI t) = true := jA_n kl.1 (by rw [kl.2]; omega) (by omega)
    rw [f_X3_last_56, if_neg (by rw [nJ_le (by omega) (by omega)]; omega)]
    simp only [ka, ly_v hC ka, h53, h1, A1, A2, nJ_cl (show t < 2147483648 by omega), nJ_cl (show Z - N + t < 2147483648 by omega), nJ_1 (show t + 1 < 2147483648 by omega), true_and, and_true, and_false, false_and, and_self, if_true, if_false, ite_self, Nat.reduceEqDiff, reduceIte, obt, jlt, jbt, jbd_ite, bind_ite]
    have hF : Fr (pV a) C (jrL C (a + 1) (vp_updL (jAL C (a + 1)) t (jAL C (a + 1) (Z - N + t)))) := frL
    obtain ⟨C', g1, g2, g3, g4, g5⟩ := ih m _ (t + 1) (by omega) (by omega) (hC.frW ka hF) (by simp only [m_I_sI, m_L_sI, m_R_sI, m_AI_sI, m_AL_sI, m_AD_sI, m_AR_sI, m_n_sI, m_I_sL, m_L_sL, m_R_sL, m_AI_sL, m_AL_sL, m_AD_sL, m_AR_sL, m_n_sL, m_I_sR, m_L_sR, m_R_sR, m_AI_sR, m_AL_sR, m_AD_sR, m_AR_sR, m_n_sR, m_I_rI, m_L_rI, m_R_rI, m_AI_rI, m_AL_rI, m_AD_rI, m_AR_rI, m_n_rI, m_I_rL, m_L_rL, m_R_rL, m_AI_rL, m_AL_rL, m_AD_rL, m_AR_rL, m_n_rL, m_I_rD, m_L_rD, m_R_rD, m_AI_rD, m_AL_rD, m_AD_rD, m_AR_rD, m_n_rD, m_I_rR, m_L_rR, m_R_rR, m_AI_rR, m_AL_rR, m_AD_rR, m_AR_rR, m_n_rR]; exact h53) (fun z => by
      simp only [m_I_sI, m_L_sI, m_R_sI, m_AI_sI, m_AL_sI, m_AD_sI, m_AR_sI, m_n_sI, m_I_sL, m_L_sL, m_R_sL, m_AI_sL, m_AL_sL, m_AD_sL, m_AR_sL, m_n_sL, m_I_sR, m_L_sR, m_R_sR, m_AI_sR, m_AL_sR, m_AD_sR, m_AR_sR, m_n_sR, m_I_rI, m_L_rI, m_R_rI, m_AI_rI, m_AL_rI, m_AD_rI, m_AR_rI, m_n_rI, m_I_rL, m_L_rL, m_R_rL, m_AI_rL, m_AL_rL, m_AD_rL, m_AR_rL, m_n_rL, m_I_rD, m_L_rD, m_R_rD, m_AI_rD, m_AL_rD, m_AD_rD, m_AR_rD, m_n_rD, m_I_rR, m_L_rR, m_R_rR, m_AI_rR, m_AL_rR, m_AD_rR, m_AR_rR, m_n_rR, true_and, and_true, and_false, false_and, and_self, if_true, if_false, ite_self, Nat.reduceEqDiff, reduceIte, obt, jlt, jbt, jbd_ite, bind_ite, updL_if]
      by_cases e : z = t
      · subst e
        rw [if_pos rfl, if_pos (by omega), hb, if_neg (by omega)]
      · rw [if_neg e, hb]
        by_cases e2 : z < t
        · rw [if_pos e2, if_pos (by omega)]
        · rw [if_neg e2, if_neg (by omega)])
    exact ⟨C', g1, hF.trans g2, g3, by rw [g4]; simp only [m_I_sI, m_L_sI, m_R_sI, m_AI_sI, m_AL_sI, m_AD_sI, m_AR_sI, m_n_sI, m_I_sL, m_L_sL, m_R_sL, m_AI_sL, m_AL_sL, m_AD_sL, m_AR_sL, m_n_sL, m_I_sR, m_L_sR, m_R_sR, m_AI_sR, m_AL_sR, m_AD_sR, m_AR_sR, m_n_sR, m_I_rI, m_L_rI, m_R_rI, m_AI_rI, m_AL_rI, m_AD_rI, m_AR_rI, m_n_rI, m_I_rL, m_L_rL, m_R_rL, m_AI_rL, m_AL_rL, m_AD_rL, m_AR_rL, m_n_rL, m_I_rD, m_L_rD, m_R_rD, m_AI_rD, m_AL_rD, m_AD_rD, m_AR_rD, m_n_rD, m_I_rR, m_L_rR, m_R_rR, m_AI_rR, m_AL_rR, m_AD_rR, m_AR_rR, m_n_rR], g5⟩
theorem a_last {n : Int} {C R : jM} {a b sa sb p : Nat} (hC : Lay C) (hR : Lay R) (ka : jK a = 7) (kb : jK b = 7) (ha : VR n C a R sa) (hb : VR n C b R sb) (hp : jI R 92 2398 = nI p) (hp2 : p < 1500) (hsa : sa < p) (hsb : sb < p) : ∃ fl x C' R', f_X3_last a b C = some (fl, C') ∧ f_X12_last 2398 (nI sa) (nI sb) R = some (x, R') ∧ OpR n C C' a R R' p fl x := by
  obtain ⟨ea1, ea2, ea3⟩ := VR_so ha
  obtain ⟨pa1, pa2, pa3⟩ := apn (show sa < 1500 by omega)
  have A1 : jA (a + 1) 14 (0 : Int32) = true := jAz (kd_val ka).1 (by rw [(kd_val ka).2]; decide)
  have qa := a12p (show sa < 1500 by omega)
  have za := c12p (show sa < 1500 by omega)
  have ia : (nI sa).toInt = sa := nI_toInt (by omega)
  obtain ⟨eb1, eb2, eb3⟩ := VR_so hb
  obtain ⟨pb1, pb2, pb3⟩ := apn (show sb < 1500 by omega)
  have A2 : jA (b + 1) 14 (0 : Int32) = true := jAz (kd_val kb).1 (by rw [(kd_val kb).2]; decide)
  have qb := a12p (show sb < 1500 by omega)
  have zb := c12p (show sb < 1500 by omega)
  have ib : (nI sb).toInt = sb := nI_toInt (by omega)
  by_cases ca : 2 ≤ (jI C 52 a).toInt ∧ (jI C 52 a).toInt ≤ 7
  · have hr1 : f_X12_isRow (jI C 52 a) = 1 := by rw [m_isR, if_pos ca]
    by_cases cb : jI C 52 b = 0
    · have hw := VR_num0 hb cb
      obtain ⟨Z, hZ, hZe⟩ := sz_n ea3
      have hZi : (jI C 53 a).toInt64.toInt = Z := by rw [i2l_toInt, hZe, nI_toInt (by omega)]
      by_cases c4 : (0 : Int64) ≤ jAL C (b + 1) 0
      · by_cases c3 : jAL C (b + 1) 0 ≤ (jI C 53 a).toInt64
        · rw [l_le, t_l0] at c4
          rw [l_le, hZi] at c3
          obtain ⟨N, hN⟩ : ∃ N : Nat, (jAL C (b + 1) 0).toInt = N := ⟨(jAL C (b + 1) 0).toInt.toNat, by omega⟩
          have hN32 : (jAL C (b + 1) 0).toInt32 = nI N := by rw [i_eq, l2i (by omega) (by omega), nI_toInt (by omega)]; exact hN
          obtain ⟨C', g1, g2, g3, g4, g5⟩ := last_loop ka (N := N) (Z := Z) (by omega) hZ (b0 := jAL C (a + 1)) N 1100000 C 0 (by omega) (by omega) hC hZe (fun z => by rw [if_neg (by omega)])
          obtain ⟨R1, m1, m2, m3, m4, m5, m6, m7, m8, m9⟩ := made_ok hR hp hp2 (jI C 52 a) (nI N)
          have hR1 := hR.frK m2
          obtain ⟨R', u1, u2, u3, u4, u5⟩ := put_ok (to := p) (from' := sa) (j := 0) (i := Z - N) (n := N) hp2 (by omega) (by omega) (by omega) (by omega) hR1
          have e52 : jAI R1 2399 sa = jI C 52 a := by rw [m6, upd_if, if_neg (by omega)]; exact ea1
          have e53 : jAI R1 2400 sa = nI Z := by rw [m7, upd_if, if_neg (by omega), ea2]; exact hZe
          have hgap : ∀ z, ¬ (12 * p ≤ z ∧ z < 12 * p + 12) → jAL R' 2401 z = jAL R 2401 z ∧ jAD R' 2402 z = jAD R 2402 z := fun z hz => by
            rw [u4, u5, if_neg (by omega), if_neg (by omega), m8, m9, if_neg hz, if_neg hz]; exact ⟨rfl, rfl⟩
          refine ⟨0, nI p, C', R', ?_, ?_, opr_new g2 (m2.trans (u2.mono (fun _ _ _ => qV_K))) ?_ ?_ ?_ (fun s hs => ?_) ?_ hp2⟩
          · unfold f_X3_last
            simp only [ka, k_2398, ly_v hC ka, A1, cl0, ly_88 hR, ly_89 hR, ly_90 hR, ly_91 hR, pa1, pa2, pa3, ea1, ea2, qa.1, qa.2, za, jid, i10, kb, ly_v hC kb, A2, pb1, pb2, pb3, eb1, eb2, qb.1, qb.2, zb, c_isR1 ka ca, cb, l_le, t_l0, c4, hZi, c3, hN32, true_and, and_true, and_false, false_and, and_self, if_true, if_false, ite_self, Nat.reduceEqDiff, reduceIte, obt, jlt, jbt, jbd_ite, bind_ite]
            exact g1
          · unfold f_X12_last
            simp only [ka, k_2398, ly_v hC ka, A1, cl0, ly_88 hR, ly_89 hR, ly_90 hR, ly_91 hR, pa1, pa2, pa3, ea1, ea2, qa.1, qa.2, za, jid, i10, kb, ly_v hC kb, A2, pb1, pb2, pb3, eb1, eb2, qb.1, qb.2, zb, hr1, cb, ← hw, l_le, t_l0, c4, hZi, c3, hN32, m1, ly_89 hR1, e53, nJ_sub (show Z < 2147483648 by omega) (show N ≤ Z by omega), true_and, and_true, and_false, false_and, and_self, if_true, if_false, ite_self, Nat.reduceEqDiff, reduceIte, obt, jlt, jbt, jbd_ite, bind_ite]
            rw [show (0 : Int32) = nI 0 from rfl, u1, obt]
          · rw [u2.i (by unfold qV; omega)]; exact m3
          · rw [u2.i (by unfold qV; omega)]; exact m4
          · rw [u2.i (by unfold qV; omega)]; exact m5
          · exact made_sS (so := jI C 52 a) (n := nI N) (by rw [u3]; exact m6) (by rw [u3]; exact m7) (fun j hj => (hgap j hj).1) (fun j hj => (hgap j hj).2) hs
          · unfold VR VV
            rw [g3, g4, u3, m6, m7, upd_if, upd_if, if_pos rfl, if_pos rfl]
            refine ⟨rfl, rfl, ⟨ea3.1, ea3.2.1, by rw [nI_toInt (by omega)]; omega, by rw [nI_toInt (by omega)]; omega, fun z => by omega⟩, fun j hj => ?_⟩
            have hjN : j < N := by unfold vlen at hj; rw [if_pos ca, nI_toInt (by omega)] at hj; omega
            have hit := VR_it ha (j := Z - N + j) (by unfold vlen; rw [if_pos ca, hZe, nI_toInt (by omega)]; omega)
            rw [g5, if_pos hjN]
            show vitem n (jI C 52 a) _ (jAL R' 2401 (12 * p + j)) (jAD R' 2402 (12 * p + j))
            rw [u4, u5, if_pos (by omega), if_pos (by omega), m8, m9, if_neg (by omega), if_neg (by omega)]
            rw [show 12 * sa + (Z - N) + (12 * p + j - (12 * p + 0)) = 12 * sa + (Z - N + j) by omega]
            exact hit
        · obtain ⟨R', d1, d2⟩ := fail_done (n := n) (C := C) (a := a) (fl := 3) hp (by decide)
          refine ⟨_, _, _, R', ?_, ?_, d2⟩
          · unfold f_X3_last
            simp only [ka, k_2398, ly_v hC ka, A1, cl0, ly_88 hR, ly_89 hR, ly_90 hR, ly_91 hR, pa1, pa2, pa3, ea1, ea2, qa.1, qa.2, za, jid, i10, kb, ly_v hC kb, A2, pb1, pb2, pb3, eb1, eb2, qb.1, qb.2, zb, c_isR1 ka ca, cb, c4, c3, true_and, and_true, and_false, false_and, and_self, if_true, if_false, ite_self, Nat.reduceEqDiff, reduceIte, obt, jlt, jbt, jbd_ite, bind_ite]
          · unfold f_X12_last
            simp only [ka, k_2398, ly_v hC ka, A1, cl0, ly_88 hR, ly_89 hR, ly_90 hR, ly_91 hR, pa1, pa2, pa3, ea1, ea2, qa.1, qa.2, za, jid, i10, kb, ly_v hC kb, A2, pb1, pb2, pb3, eb1, eb2, qb.1, qb.2, zb, hr1, cb, ← hw, c4, c3, true_and, and_true, and_false, false_and, and_self, if_true, if_false, ite_self, Nat.reduceEqDiff, reduceIte, obt, jlt, jbt, jbd_ite, bind_ite]
            exact d1
      · obtain ⟨R', d1, d2⟩ := fail_done (n := n) (C := C) (a := a) (fl := 4) hp (by decide)
        refine ⟨_, _, _, R', ?_, ?_, d2⟩
        · unfold f_X3_last
          simp only [ka, k_2398, ly_v hC ka, A1, cl0, ly_88 hR, ly_89 hR, ly_90 hR, ly_91 hR, pa1, pa2, pa3, ea1, ea2, qa.1, qa.2, za, jid, i10, kb, ly_v hC kb, A2, pb1, pb2, pb3, eb1, eb2, qb.1, qb.2, zb, c_isR1 ka ca, cb, c4, true_and, and_true, and_false, false_and, and_self, if_true, if_false, ite_self, Nat.reduceEqDiff, reduceIte, obt, jlt, jbt, jbd_ite, bind_ite]
        · unfold f_X12_last
          simp only [ka, k_2398, ly_v hC ka, A1, cl0, ly_88 hR, ly_89 hR, ly_90 hR, ly_91 hR, pa1, pa2, pa3, ea1, ea2, qa.1, qa.2, za, jid, i10, kb, ly_v hC kb, A2, pb1, pb2, pb3, eb1, eb2, qb.1, qb.2, zb, hr1, cb, ← hw, c4, true_and, and_true, and_false, false_and, and_self, if_true, if_false, ite_self, Nat.reduceEqDiff, reduceIte, obt, jlt, jbt, jbd_ite, bind_ite]
          exact d1
    · obtain ⟨R', d1, d2⟩ := fail_done (n := n) (C := C) (a := a) (fl := 2) hp (by decide)
      refine ⟨_, _, _, R', ?_, ?_, d2⟩
      · unfold f_X3_last
        simp only [ka, k_2398, ly_v hC ka, A1, cl0, ly_88 hR, ly_89 hR, ly_90 hR, ly_91 hR, pa1, pa2, pa3, ea1, ea2, qa.1, qa.2, za, jid, i10, kb, ly_v hC kb, A2, pb1, pb2, pb3, eb1, eb2, qb.1, qb.2, zb, c_isR1 ka ca, cb, true_and, and_true, and_false, false_and, and_self, if_true, if_false, ite_self, Nat.reduceEqDiff, reduceIte, obt, jlt, jbt, jbd_ite, bind_ite]
      · unfold f_X12_last f_X12_last_21
        simp only [ka, k_2398, ly_v hC ka, A1, cl0, ly_88 hR, ly_89 hR, ly_90 hR, ly_91 hR, pa1, pa2, pa3, ea1, ea2, qa.1, qa.2, za, jid, i10, kb, ly_v hC kb, A2, pb1, pb2, pb3, eb1, eb2, qb.1, qb.2, zb, hr1, cb, true_and, and_true, and_false, false_and, and_self, if_true, if_false, ite_self, Nat.reduceEqDiff, reduceIte, obt, jlt, jbt, jbd_ite, bind_ite]
        exact d1
  · obtain ⟨R', d1, d2⟩ := fail_done (n := n) (C := C) (a := a) (fl := 2) hp (by decide)
    have hr0 : f_X12_isRow (jI C 52 a) = 0 := by rw [m_isR, if_neg ca]
    refine ⟨_, _, _, R', ?_, ?_, d2⟩
    · unfold f_X3_last
      simp only [ka, k_2398, ly_v hC ka, A1, cl0, ly_88 hR, ly_89 hR, ly_90 hR, ly_91 hR, pa1, pa2, pa3, ea1, ea2, qa.1, qa.2, za, jid, i10, kb, ly_v hC kb, A2, pb1, pb2, pb3, eb1, eb2, qb.1, qb.2, zb, c_isR0 ka ca, true_and, and_true, and_false, false_and, and_self, if_true, if_false, ite_self, Nat.reduceEqDiff, reduceIte, obt, jlt, jbt, jbd_ite, bind_ite]
    · unfold f_X12_last f_X12_last_21
      simp only [ka, k_2398, ly_v hC ka, A1, cl0, ly_88 hR, ly_89 hR, ly_90 hR, ly_91 hR, pa1, pa2, pa3, ea1, ea2, qa.1, qa.2, za, jid, i10, kb, ly_v hC kb, A2, pb1, pb2, pb3, eb1, eb2, qb.1, qb.2, zb, hr0, true_and, and_true, and_false, false_and, and_self, if_true, if_false, ite_self, Nat.reduceEqDiff, reduceIte, obt, jlt, jbt, jbd_ite, bind_ite]
      exact d1
/-- what join leaves when all belongs -/
def jEnd (a b : Nat) (C : jM) : jM := jsI (jrL C (a + 1) (va_cpy (jAL C (b + 1)) (jAL C (a + 1)) 0 (jI C 53 a).toNatClampNeg (jI C 53 b).toNatClampNeg)) 53 a (jI C 53 a + jI C 53 b)
theorem join_end {C : jM} (hC : Lay C) {a b : Nat} (ka : jK a = 7) (kb : jK b = 7) {Za Zb : Nat} (h1 : jI C 53 a = nI Za) (h2 : jI C 53 b = nI Zb) (hz : Za + Zb ≤ 12) (fuel : Nat) (i : Int32) (hi : nI Zb ≤ i) : f_X3_join_61 (fuel + 1) 1 a b i C = some (0, jEnd a b C) := by
  have kla := kd_val ka
  have klb := kd_val kb
  have hc : jcp (0 : Int32) (nI Za) (nI Zb) (jLen (b + 1)) (jLen (a + 1)) = true := by
    unfold jcp
    rw [nI_toInt (by omega), nI_toInt (by omega), nJ_cl (by omega), nJ_cl (by omega), kla.2, klb.2, t_0, cl0]
    simp only [Bool.and_eq_true, decide_eq_true_eq]
    omega
  rw [f_X3_join_61]
  simp only [kb, ka, h2, hi, ly_v hC ka, ly_v hC kb, kla.1, klb.1, h1, hc, cl0, m_I_sI, m_L_sI, m_R_sI, m_AI_sI, m_AL_sI, m_AD_sI, m_AR_sI, m_n_sI, m_I_sL, m_L_sL, m_R_sL, m_AI_sL, m_AL_sL, m_AD_sL, m_AR_sL, m_n_sL, m_I_sR, m_L_sR, m_R_sR, m_AI_sR, m_AL_sR, m_AD_sR, m_AR_sR, m_n_sR, m_I_rI, m_L_rI, m_R_rI, m_AI_rI, m_AL_rI, m_AD_rI, m_AR_rI, m_n_rI, m_I_rL, m_L_rL, m_R_rL, m_AI_rL, m_AL_rL, m_AD_rL, m_AR_rL, m_n_rL, m_I_rD, m_L_rD, m_R_rD, m_AI_rD, m_AL_rD, m_AD_rD, m_AR_rD, m_n_rD, m_I_rR, m_L_rR, m_R_rR, m_AI_rR, m_AL_rR, m_AD_rR, m_AR_rR, m_n_rR, true_and, and_true, and_false, false_and, and_self, if_true, if_false, ite_self, Nat.reduceEqDiff, reduceIte, obt, jlt, jbt, jbd_ite, bind_ite]
  unfold jEnd
  rw [h1, h2]
theorem join_loop {n : Int} {C R : jM} {a b sa sb : Nat} (hC : Lay C) (hR : Lay R) (hP : rP C R) (hn : n = (jI C 31 1).toInt) (ka : jK a = 7) (kb : jK b = 7) (ha : VR n C a R sa) (hb : VR n C b R sb) (hsa : sa < 1500) (hsb : sb < 1500) (hk : 5 ≤ (jI C 52 a).toInt ∧ (jI C 52 a).toInt ≤ 7) (hkb : 5 ≤ (jI C 52 b).toInt ∧ (jI C 52 b).toInt ≤ 7) {Za Zb : Nat} (h1 : jI C 53 a = nI Za) (h2 : jI C 53 b = nI Zb) (hz : Za + Zb ≤ 12) : ∀ (k fuel fuel2 : Nat) (t : Nat), k < fuel → k < fuel2 → t + k = Zb →
    (f_X3_join_61 fuel 1 a b (nI t) C = some (5, C) ∧ f_X12_join_101 fuel2 2398 (nI sa) (nI sb) (nI t) R = f_X12_failing 2398 5 R) ∨ (f_X3_join_61 fuel 1 a b (nI t) C = some (0, jEnd a b C) ∧ f_X12_join_101 fuel2 2398 (nI sa) (nI sb) (nI t) R = f_X12_join_159 2398 (nI sa) (nI sb) R) := by
  obtain ⟨ea1, ea2, ea3⟩ := VR_so ha
  obtain ⟨eb1, eb2, eb3⟩ := VR_so hb
  obtain ⟨pa1, pa2, pa3⟩ := apn hsa
  obtain ⟨pb1, pb2, pb3⟩ := apn hsb
  have klb := kd_val kb
  intro k
  induction k with
  | zero =>
    intro fuel fuel2 t hf hf2 ht
    obtain ⟨m, rfl⟩ : ∃ m, fuel = m + 1 := ⟨fuel - 1, by omega⟩
    obtain ⟨m2, rfl⟩ : ∃ m, fuel2 = m + 1 := ⟨fuel2 - 1, by omega⟩
    have hle : nI Zb ≤ nI t := by rw [nJ_le (by omega) (by omega)]; omega
    right
    refine ⟨join_end hC ka kb h1 h2 hz m _ hle, ?_⟩
    rw [f_X12_join_101]
    simp only [k_2398, ly_89 hR, pb2, pb3, eb2, h2, hle, true_and, and_true, and_false, false_and, and_self, if_true, if_false, ite_self, Nat.reduceEqDiff, reduceIte, obt, jlt, jbt, jbd_ite, bind_ite]
  | succ k ih =>
    intro fuel fuel2 t hf hf2 ht
    obtain ⟨m, rfl⟩ : ∃ m, fuel = m + 1 := ⟨fuel - 1, by omega⟩
    obtain ⟨m2, rfl⟩ : ∃ m, fuel2 = m + 1 := ⟨fuel2 - 1, by omega⟩
    have hnle : ¬ nI Zb ≤ nI t := by rw [nJ_le (by omega) (by omega)]; omega
    have hit := VR_it hb (j := t) (by unfold vlen; rw [if_pos (by omega), h2, nI_toInt (by omega)]; omega)
    unfold vitem at hit
    rw [if_neg (by omega)] at hit
    have hrg := hit.2.1 hkb.1
    obtain ⟨q, q1, q2⟩ := belongs_eq hC hR hP (so := jI C 52 a) (p := jAL C (b + 1) t) hrg.1 (by omega)
    have hx := i12 (v := nI sb) (w := nI t) (s := sb) (i := t) (nI_toInt (by omega)) hsb (nI_toInt (by omega)) (by omega)
    have hxc : (((12 : Int32) * nI sb) + nI t).toNatClampNeg = 12 * sb + t := by rw [i_cl, hx]; omega
    have hX : jA 2401 14 (((12 : Int32) * nI sb) + nI t) = true := jA_iff.mpr ⟨k_2401, by omega, by rw [ln_2401]; omega⟩
    have A1 : jA (b + 1) 14 (nI t) = true := jA_n klb.1 (by rw [klb.2]; omega) (by omega)
    have hk1 : f_X12_isKin (jI C 52 a) = 1 := by rw [m_isK, if_pos hk]
    have e1 : f_X3_join_61 (m + 1) 1 a b (nI t) C = if q = 0 then some (5, C) else f_X3_join_61 m 1 a b (nI (t + 1)) C := by
      rw [f_X3_join_61]
      unfold f_X3_join_95
      simp only [ka, kb, k_1, h2, hnle, c_isK1 ka hk, i10, ly_v hC kb, A1, nJ_cl (show t < 2147483648 by omega), q1, nJ_1 (show t + 1 < 2147483648 by omega), true_and, and_true, and_false, false_and, and_self, if_true, if_false, ite_self, Nat.reduceEqDiff, reduceIte, obt, jlt, jbt, jbd_ite, bind_ite]
    have e2 : f_X12_join_101 (m2 + 1) 2398 (nI sa) (nI sb) (nI t) R = if q = 0 then f_X12_failing 2398 5 R else f_X12_join_101 m2 2398 (nI sa) (nI sb) (nI (t + 1)) R := by
      rw [f_X12_join_101]
      simp only [k_2398, ly_88 hR, ly_89 hR, ly_90 hR, pa1, pa3, pb2, pb3, eb2, ea1, h2, hnle, hk1, i10, hX, hxc, ← hit.1, q2, jid, nJ_1 (show t + 1 < 2147483648 by omega), true_and, and_true, and_false, false_and, and_self, if_true, if_false, ite_self, Nat.reduceEqDiff, reduceIte, obt, jlt, jbt, jbd_ite, bind_ite]
    rw [e1, e2]
    by_cases c : q = 0
    · rw [if_pos c, if_pos c]; exact .inl ⟨rfl, rfl⟩
    · rw [if_neg c, if_neg c]; exact ih m m2 (t + 1) (by omega) (by omega) (by omega)
theorem join_num {C : jM} (hC : Lay C) {a b : Nat} (ka : jK a = 7) (kb : jK b = 7) (hk : ¬ (5 ≤ (jI C 52 a).toInt ∧ (jI C 52 a).toInt ≤ 7)) {Za Zb : Nat} (h1 : jI C 53 a = nI Za) (h2 : jI C 53 b = nI Zb) (hz : Za + Zb ≤ 12) : ∀ (k fuel : Nat) (t : Nat), k < fuel → t + k = Zb → f_X3_join_61 fuel 1 a b (nI t) C = some (0, jEnd a b C) := by
  intro k
  induction k with
  | zero =>
    intro fuel t hf ht
    obtain ⟨m, rfl⟩ : ∃ m, fuel = m + 1 := ⟨fuel - 1, by omega⟩
    exact join_end hC ka kb h1 h2 hz m _ (by rw [nJ_le (by omega) (by omega)]; omega)
  | succ k ih =>
    intro fuel t hf ht
    obtain ⟨m, rfl⟩ : ∃ m, fuel = m + 1 := ⟨fuel - 1, by omega⟩
    have hnle : ¬ nI Zb ≤ nI t := by rw [nJ_le (by omega) (by omega)]; omega
    rw [f_X3_join_61]
    unfold f_X3_join_95
    simp only [ka, kb, h2, hnle, c_isK0 ka hk, nJ_1 (show t + 1 < 2147483648 by omega), true_and, and_true, and_false, false_and, and_self, if_true, if_false, ite_self, Nat.reduceEqDiff, reduceIte, obt, jlt, jbt, jbd_ite, bind_ite]
    exact ih m (t + 1) (by omega) (by omega)

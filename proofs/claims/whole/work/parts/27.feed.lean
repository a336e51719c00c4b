/-! PURE: feed -/
theorem b255 {x y : BitVec 32} (h : ∀ j, j < 8 → x.getLsbD j = y.getLsbD j) : x &&& 255#32 = y &&& 255#32 := by
  apply BitVec.eq_of_getLsbD_eq
  intro j hj
  rw [BitVec.getLsbD_and, BitVec.getLsbD_and]
  by_cases h8 : j < 8
  · rw [h j h8]
  · have : (255#32).getLsbD j = false := by
      have h2 : ∀ q : Fin 32, 8 ≤ q.val → (255#32).getLsbD q.val = false := by decide
      exact h2 ⟨j, hj⟩ (by show 8 ≤ j; omega)
    rw [this, Bool.and_false, Bool.and_false]
theorem by_eq (w : Int64) (a : UInt64) (b : Int64) (s : Nat) (ha : a.toNat = s) (hb : b.toBitVec.smod 64 = BitVec.ofNat 64 s) (hs : s ≤ 56) : ((w.toUInt64 >>> a).toInt64.toInt32.toInt8.toInt32 &&& 255 : Int32) = ((w >>> b).toInt32 &&& 255 : Int32) := by
  rw [← Int32.toBitVec_inj]
  simp only [Int32.toBitVec_and, Int8.toBitVec_toInt32, Int32.toBitVec_toInt8, Int64.toBitVec_toInt32, UInt64.toBitVec_toInt64, UInt64.toBitVec_shiftRight, Int64.toBitVec_shiftRight, hb]
  apply b255
  intro j hj
  have h64 : s % 18446744073709551616 = s := Nat.mod_eq_of_lt (by omega)
  have hq : (a.toBitVec % 64).toNat = s := by
    rw [BitVec.toNat_umod, UInt64.toNat_toBitVec, ha]
    exact Nat.mod_eq_of_lt (by show s < 64; omega)
  have e1 : (w.toUInt64.toBitVec >>> (a.toBitVec % 64)) = w.toBitVec >>> s := by
    show w.toBitVec >>> (a.toBitVec % 64).toNat = _
    rw [hq]
  have e2 : w.toBitVec.sshiftRight' (BitVec.ofNat 64 s) = w.toBitVec.sshiftRight s := by
    show w.toBitVec.sshiftRight (BitVec.ofNat 64 s).toNat = _
    rw [BitVec.toNat_ofNat, h64]
  rw [e1, e2]
  simp only [BitVec.getLsbD_signExtend, if_pos hj, if_pos (show j < 32 by omega), if_pos (show j < 64 by omega), BitVec.getLsbD_ushiftRight, BitVec.getLsbD_sshiftRight]
  rw [if_pos (show s + j < 64 by omega)]
  simp [show j < 32 by omega, hj, show j < 64 by omega]
theorem f_by (w : Int64) (v4 : Int32) (h1 : 0 ≤ v4.toInt) (h2 : v4.toInt ≤ 7) : ((vp_nar .byte (((w.toUInt64 >>> (((8 : Int32) * v4).toInt64.toUInt64 &&& Int64.toUInt64 63)).toInt64).toInt32).toInt8.toInt32) &&& 255 : Int32) = ((w >>> (((8 : Int32) * v4).toInt64 &&& 63)).toInt32 &&& 255 : Int32) := by
  rw [pk_vb]
  obtain ⟨k, hk, hk2⟩ : ∃ k : Nat, k < 8 ∧ v4 = nI k := ⟨v4.toInt.toNat, by omega, by rw [i_eq, nI_toInt (by omega)]; omega⟩
  have hall : ∀ k : Fin 8, ((((8 : Int32) * nI k.val).toInt64.toUInt64 &&& Int64.toUInt64 63).toNat = 8 * k.val) ∧ (((8 : Int32) * nI k.val).toInt64 &&& 63).toBitVec.smod 64 = BitVec.ofNat 64 (8 * k.val) := by decide
  obtain ⟨ha, hb⟩ := hall ⟨k, hk⟩
  subst hk2
  exact by_eq w _ _ (8 * k) ha hb (by omega)
def pT (t f a : Nat) : Prop := (t = 0 ∧ f = 37 ∧ a = 608) ∨ (t = 3 ∧ a = 609)
def qT (t f a : Nat) : Prop := (t = 0 ∧ f = 94 ∧ a = 2398) ∨ (t = 3 ∧ a = 2403)
theorem feed_loop (w : Int64) : ∀ (k fuel : Nat) (C R : jM) (i : Int32), k < fuel → i.toInt = (k : Int) - 1 → k ≤ 8 → Lay C → Lay R → rT C R → (jI C 37 608).toInt + k ≤ 1600 →
    ∃ C' R' : jM, f_X11_feed_37 fuel 0 w i C = some (jI C' 37 608, C') ∧ f_X12_feed_35 fuel 2398 w i R = some (jI R' 94 2398, R') ∧ rT C' R' ∧ Fr pT C C' ∧ Fr qT R R' := by
  intro k
  induction k with
  | zero =>
    intro fuel C R i hf hi hk hC hR hT hn
    obtain ⟨m, rfl⟩ : ∃ m, fuel = m + 1 := ⟨fuel - 1, by omega⟩
    unfold f_X11_feed_37 f_X12_feed_35
    have hi0 : i < 0 := by rw [i_lt, t_0]; omega
    simp only [hi0, ly_72 hC, k_0, k_608, k_2398, Option.bind_some, if_true]
    exact ⟨C, R, rfl, rfl, hT, Fr.refl, Fr.refl⟩
  | succ k ih =>
    intro fuel C R i hf hi hk hC hR hT hn
    obtain ⟨m, rfl⟩ : ∃ m, fuel = m + 1 := ⟨fuel - 1, by omega⟩
    obtain ⟨n1, n2, n3, n4⟩ := hT
    have hb := f_by w i (by omega) (by omega)
    unfold f_X11_feed_37 f_X12_feed_35 f_X7_add
    have hi0 : ¬ i < 0 := by rw [i_lt, t_0]; omega
    have hA1 : jA 609 11 (jI C 37 608) = true := jA_iff.mpr ⟨k_609, n2, by rw [ln_609]; omega⟩
    have hA2 : jA 2403 13 (jI C 37 608) = true := jA_iff.mpr ⟨k_2403, n2, by rw [ln_2403]; omega⟩
    have hle : ¬ (1600 : Int32) ≤ jI C 37 608 := by rw [i_le, show (1600 : Int32).toInt = 1600 from rfl]; omega
    have hx : (i + (-1 : Int32)).toInt = (k : Int) - 1 := by rw [i_add] <;> rw [t_m1] <;> omega
    have hnn : (jI C 37 608 + 1).toInt = (jI C 37 608).toInt + 1 := i_add1 (by omega)
    simp only [hi0, ly_72 hC, ly_36 hC, ly_93 hR, k_0, k_608, k_2398, ← n1, hA1, hA2, hle, m_I_sI, m_L_sI, m_R_sI, m_AI_sI, m_AL_sI, m_AD_sI, m_AR_sI, m_n_sI, m_I_sL, m_L_sL, m_R_sL, m_AI_sL, m_AL_sL, m_AD_sL, m_AR_sL, m_n_sL, m_I_sR, m_L_sR, m_R_sR, m_AI_sR, m_AL_sR, m_AD_sR, m_AR_sR, m_n_sR, m_I_rI, m_L_rI, m_R_rI, m_AI_rI, m_AL_rI, m_AD_rI, m_AR_rI, m_n_rI, m_I_rL, m_L_rL, m_R_rL, m_AI_rL, m_AL_rL, m_AD_rL, m_AR_rL, m_n_rL, m_I_rD, m_L_rD, m_R_rD, m_AI_rD, m_AL_rD, m_AD_rD, m_AR_rD, m_n_rD, m_I_rR, m_L_rR, m_R_rR, m_AI_rR, m_AL_rR, m_AD_rR, m_AR_rR, m_n_rR, true_and, and_true, and_false, false_and, and_self, if_true, if_false, ite_self, Nat.reduceEqDiff, reduceIte, Option.bind_some, jlet, jbd_some, jbd_ite, bind_ite]
    generalize hbv : vp_nar .byte (((w.toUInt64 >>> (((8 : Int32) * i).toInt64.toUInt64 &&& Int64.toUInt64 63)).toInt64).toInt32).toInt8.toInt32 = bv at hb ⊢
    have hF : Fr pT C (jrI (jsI C 37 608 (jI C 37 608 + 1)) 609 (upd (jAI C 609) (jI C 37 608).toNatClampNeg bv)) := ((Fr.refl).sI (by unfold pT; omega)).rI (by unfold pT; omega)
    have hG : Fr qT R (jsI (jrI R 2403 (upd (jAI R 2403) (jI C 37 608).toNatClampNeg ((w >>> (((8 : Int32) * i).toInt64 &&& 63)).toInt32 &&& 255))) 94 2398 (jI C 37 608 + 1)) := ((Fr.refl).rI (by unfold qT; omega)).sI (by unfold qT; omega)
    have hT1 : rT (jrI (jsI C 37 608 (jI C 37 608 + 1)) 609 (upd (jAI C 609) (jI C 37 608).toNatClampNeg bv)) (jsI (jrI R 2403 (upd (jAI R 2403) (jI C 37 608).toNatClampNeg ((w >>> (((8 : Int32) * i).toInt64 &&& 63)).toInt32 &&& 255))) 94 2398 (jI C 37 608 + 1)) := by
      unfold rT
      simp only [m_I_sI, m_L_sI, m_R_sI, m_AI_sI, m_AL_sI, m_AD_sI, m_AR_sI, m_n_sI, m_I_sL, m_L_sL, m_R_sL, m_AI_sL, m_AL_sL, m_AD_sL, m_AR_sL, m_n_sL, m_I_sR, m_L_sR, m_R_sR, m_AI_sR, m_AL_sR, m_AD_sR, m_AR_sR, m_n_sR, m_I_rI, m_L_rI, m_R_rI, m_AI_rI, m_AL_rI, m_AD_rI, m_AR_rI, m_n_rI, m_I_rL, m_L_rL, m_R_rL, m_AI_rL, m_AL_rL, m_AD_rL, m_AR_rL, m_n_rL, m_I_rD, m_L_rD, m_R_rD, m_AI_rD, m_AL_rD, m_AD_rD, m_AR_rD, m_n_rD, m_I_rR, m_L_rR, m_R_rR, m_AI_rR, m_AL_rR, m_AD_rR, m_AR_rR, m_n_rR, true_and, and_true, and_false, false_and, and_self, if_true, if_false, ite_self, Nat.reduceEqDiff, reduceIte, Option.bind_some, jlet, jbd_some, jbd_ite, bind_ite, hnn]
      refine ⟨by omega, by omega, fun j hj => ?_⟩
      rw [upd_if, upd_if]
      by_cases e : j = (jI C 37 608).toNatClampNeg
      · rw [if_pos e, if_pos e]; exact hb.symm
      · rw [if_neg e, if_neg e]; exact n4 j (by rw [i_cl] at e; omega)
    obtain ⟨C', R', g1, g2, g3, g4, g5⟩ := ih m _ _ (i + (-1 : Int32)) (by omega) hx (by omega) (hC.fr hF (fun f a z => by unfold pT at z; omega) (fun a z => by have := k16 a; unfold pT at z; omega)) (hR.fr hG (fun f a z => by unfold qT at z; omega) (fun a z => by have := k16r a; unfold qT at z; omega)) hT1 (by simp only [m_I_sI, m_L_sI, m_R_sI, m_AI_sI, m_AL_sI, m_AD_sI, m_AR_sI, m_n_sI, m_I_sL, m_L_sL, m_R_sL, m_AI_sL, m_AL_sL, m_AD_sL, m_AR_sL, m_n_sL, m_I_sR, m_L_sR, m_R_sR, m_AI_sR, m_AL_sR, m_AD_sR, m_AR_sR, m_n_sR, m_I_rI, m_L_rI, m_R_rI, m_AI_rI, m_AL_rI, m_AD_rI, m_AR_rI, m_n_rI, m_I_rL, m_L_rL, m_R_rL, m_AI_rL, m_AL_rL, m_AD_rL, m_AR_rL, m_n_rL, m_I_rD, m_L_rD, m_R_rD, m_AI_rD, m_AL_rD, m_AD_rD, m_AR_rD, m_n_rD, m_I_rR, m_L_rR, m_R_rR, m_AI_rR, m_AL_rR, m_AD_rR, m_AR_rR, m_n_rR, true_and, and_true, and_false, false_and, and_self, if_true, if_false, ite_self, Nat.reduceEqDiff, reduceIte, Option.bind_some, jlet, jbd_some, jbd_ite, bind_ite, hnn]; omega)
    exact ⟨C', R', g1, g2, g3, hF.trans g4, hG.trans g5⟩
theorem q_feed {C R : jM} (hC : Lay C) (hR : Lay R) (h : Rel C R) (w : Int64) (v : Int32) : Sim (f_X11_feed 0 w v) (f_X12_feed 2398 w v) C R := by
  have hT := h.T
  obtain ⟨n1, n2, n3, n4⟩ := h.T
  unfold Sim f_X11_feed f_X12_feed
  by_cases c : 1 ≤ v.toInt ∧ v.toInt ≤ 8
  · have hv : (jI C 37 608 + v).toInt = (jI C 37 608).toInt + v.toInt := i_add (by omega) (by omega)
    by_cases c2 : (jI C 37 608).toInt + v.toInt ≤ 1600
    · obtain ⟨C', R', g1, g2, g3, hF, hG⟩ := feed_loop w v.toInt.toNat 1100000 C R (v - 1) (by omega) (by rw [i_sub1 (by omega)]; omega) (by omega) hC hR hT (by omega)
      simp only [hv, ly_72 hC, k_0, k_608, k_2398, ← n1, in0, i_le, i_lt, i2l_toInt, Int32.reduceToInt, Int64.reduceToInt, t_0, t_l0, t_m40, t_lm40, m_I_sI, m_L_sI, m_R_sI, m_AI_sI, m_AL_sI, m_AD_sI, m_AR_sI, m_n_sI, m_I_sL, m_L_sL, m_R_sL, m_AI_sL, m_AL_sL, m_AD_sL, m_AR_sL, m_n_sL, m_I_sR, m_L_sR, m_R_sR, m_AI_sR, m_AL_sR, m_AD_sR, m_AR_sR, m_n_sR, m_I_rI, m_L_rI, m_R_rI, m_AI_rI, m_AL_rI, m_AD_rI, m_AR_rI, m_n_rI, m_I_rL, m_L_rL, m_R_rL, m_AI_rL, m_AL_rL, m_AD_rL, m_AR_rL, m_n_rL, m_I_rD, m_L_rD, m_R_rD, m_AI_rD, m_AL_rD, m_AD_rD, m_AR_rD, m_n_rD, m_I_rR, m_L_rR, m_R_rR, m_AI_rR, m_AL_rR, m_AD_rR, m_AR_rR, m_n_rR, true_and, and_true, and_false, false_and, and_self, if_true, if_false, ite_self, Nat.reduceEqDiff, reduceIte, Option.bind_some, jlet, jbd_some, jbd_ite, bind_ite]
      rw [if_neg (by omega), if_pos (by omega), if_pos (by omega), if_neg (by omega), if_pos (by omega)]
      rw [g1, g2, g3.1]
      have hs : ∀ s, s < 225 → sS R R' s := fun s _ => hG.sS (fun a _ _ => by unfold qT; omega) s
      have hx : ∀ t, t < 33 → sX R R' t := fun t _ => hG.sX (fun a _ _ => by unfold qT; omega) t
      refine ⟨_, _, _, rfl, rfl, ?_, hF.mono (fun t f a z => by have := k16 a; unfold pC; unfold pT at z; omega), hG.mono (fun t f a z => by have := k16r a; unfold pR; unfold qT at z; omega)⟩
      exact ⟨g3,
          rN_f hF hG (fun t f a => by unfold pT cN; omega) (fun t f a => by unfold qT mN; omega) h.N,
          rP_f hF hG (fun t f a => by unfold pT cP; omega) (fun t f a => by unfold qT mP; omega) h.P,
          rD_f hF hG (fun t f a => by unfold pT cD; omega) (fun _ _ _ z => z.elim) (hs 0 (by omega)) h.D,
          rF_f hF hG (fun t f a => by unfold pT cF; omega) (fun t f a => by unfold qT mF; omega) (fun s _ _ => hs s (by omega)) h.F,
          rU_f hF hG (fun t f a => by unfold pT cU; omega) (fun t f a => by unfold qT mU; omega) h.U,
          rA_f hF hG (fun t f a => by unfold pT cA; omega) (fun t f a => by unfold qT mA; omega) h.A,
          rY_f hF hG (fun t f a => by unfold pT cY; omega) (fun t f a => by unfold qT mY; omega) h.Y,
          rR_f hF hG (fun t f a => by unfold pT cR; omega) (fun t f a => by unfold qT mR; omega) h.R,
          rS_f hF hG (fun t f a => by unfold pT cS; omega) (fun t f a => by unfold qT mS; omega) (fun s _ _ => hs s (by omega)) h.S,
          rE_f hF hG (fun t f a => by unfold pT cE; omega) (fun t f a => by unfold qT mE; omega) (fun t _ => hx t (by omega)) h.E⟩
    · simp only [hv, ly_72 hC, k_0, k_608, k_2398, ← n1, in0, i_le, i_lt, i2l_toInt, Int32.reduceToInt, Int64.reduceToInt, t_0, t_l0, t_m40, t_lm40, m_I_sI, m_L_sI, m_R_sI, m_AI_sI, m_AL_sI, m_AD_sI, m_AR_sI, m_n_sI, m_I_sL, m_L_sL, m_R_sL, m_AI_sL, m_AL_sL, m_AD_sL, m_AR_sL, m_n_sL, m_I_sR, m_L_sR, m_R_sR, m_AI_sR, m_AL_sR, m_AD_sR, m_AR_sR, m_n_sR, m_I_rI, m_L_rI, m_R_rI, m_AI_rI, m_AL_rI, m_AD_rI, m_AR_rI, m_n_rI, m_I_rL, m_L_rL, m_R_rL, m_AI_rL, m_AL_rL, m_AD_rL, m_AR_rL, m_n_rL, m_I_rD, m_L_rD, m_R_rD, m_AI_rD, m_AL_rD, m_AD_rD, m_AR_rD, m_n_rD, m_I_rR, m_L_rR, m_R_rR, m_AI_rR, m_AL_rR, m_AD_rR, m_AR_rR, m_n_rR, true_and, and_true, and_false, false_and, and_self, if_true, if_false, ite_self, Nat.reduceEqDiff, reduceIte, Option.bind_some, jlet, jbd_some, jbd_ite, bind_ite]
      rw [if_neg (by omega), if_pos (by omega), if_neg (by omega), if_neg (by omega), if_neg (by omega)]
      exact ⟨_, _, _, rfl, rfl, h.fr_self⟩
  · simp only [ly_72 hC, k_0, k_608, k_2398, ← n1, in0, i_le, i_lt, i2l_toInt, Int32.reduceToInt, Int64.reduceToInt, t_0, t_l0, t_m40, t_lm40, m_I_sI, m_L_sI, m_R_sI, m_AI_sI, m_AL_sI, m_AD_sI, m_AR_sI, m_n_sI, m_I_sL, m_L_sL, m_R_sL, m_AI_sL, m_AL_sL, m_AD_sL, m_AR_sL, m_n_sL, m_I_sR, m_L_sR, m_R_sR, m_AI_sR, m_AL_sR, m_AD_sR, m_AR_sR, m_n_sR, m_I_rI, m_L_rI, m_R_rI, m_AI_rI, m_AL_rI, m_AD_rI, m_AR_rI, m_n_rI, m_I_rL, m_L_rL, m_R_rL, m_AI_rL, m_AL_rL, m_AD_rL, m_AR_rL, m_n_rL, m_I_rD, m_L_rD, m_R_rD, m_AI_rD, m_AL_rD, m_AD_rD, m_AR_rD, m_n_rD, m_I_rR, m_L_rR, m_R_rR, m_AI_rR, m_AL_rR, m_AD_rR, m_AR_rR, m_n_rR, true_and, and_true, and_false, false_and, and_self, if_true, if_false, ite_self, Nat.reduceEqDiff, reduceIte, Option.bind_some, jlet, jbd_some, jbd_ite, bind_ite]
    by_cases c3 : v.toInt < 1
    · rw [if_pos c3, if_pos (by omega)]
      exact ⟨_, _, _, rfl, rfl, h.fr_self⟩
    · rw [if_neg c3, if_neg (by omega), if_pos (by omega)]
      exact ⟨_, _, _, rfl, rfl, h.fr_self⟩

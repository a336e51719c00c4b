/-! PURE: the simple calls, second part -/
theorem jbd_some {α β : Type} {x : α} {S : jM} {k : α → jM → Option β} : jbd (some (x, S)) k = k x S := rfl
theorem jbd_ite {α β : Type} {c : Prop} [Decidable c] {x y : Option (α × jM)} {k : α → jM → Option β} : jbd (if c then x else y) k = if c then jbd x k else jbd y k := by split <;> rfl
theorem bind_ite {α β : Type} {c : Prop} [Decidable c] {x y : Option α} {k : α → Option β} : (if c then x else y).bind k = if c then x.bind k else y.bind k := by split <;> rfl
theorem t_as (x : Int32) : x + 1 - 1 = x := by
  rw [Int32.sub_eq_add_neg, Int32.add_assoc, ← Int32.sub_eq_add_neg, Int32.sub_self, Int32.add_zero]
theorem upd_if {r : Nat → Int32} {i j : Nat} {v : Int32} : upd r i v j = if j = i then v else r j := rfl
theorem updL_if {r : Nat → Int64} {i j : Nat} {v : Int64} : vp_updL r i v j = if j = i then v else r j := rfl
theorem nar_b {c : Int32} (h : c = 0 ∨ c = 1) : vp_nar .boolean c = c := by rcases h with h | h <;> subst h <;> rfl
theorem VR.n {n n' : Int} {C : jM} {v : Nat} {R : jM} {s : Nat} (h : VR n C v R s) (hn : n ≤ n') : VR n' C v R s := by
  obtain ⟨a, b, c, d⟩ := h
  refine ⟨a, b, c, fun j hj => ?_⟩
  have := d j hj
  unfold vitem at *
  split
  · rw [if_pos (by assumption)] at this; exact this
  · rw [if_neg (by assumption)] at this
    exact ⟨this.1, fun z => ⟨(this.2.1 z).1, by have := (this.2.1 z).2; omega⟩, this.2.2⟩
theorem rD_n {C R : jM} {v : Int32} (h : rD C R) (hv : (jI C 31 1).toInt ≤ v.toInt) : rD (jsI C 31 1 v) R := by
  have : VR v.toInt C 605 R 0 := VR.n h hv
  exact this
theorem rF_n {C R : jM} {v : Int32} (h : rF C R) (hv : (jI C 31 1).toInt ≤ v.toInt) : rF (jsI C 31 1 v) R := by
  refine ⟨h.1, h.2.1, h.2.2.1, fun i hi => ?_⟩
  obtain ⟨h1, h2, h3, h4, h5, h6, h7, h8⟩ := h.2.2.2 i hi
  have : VR v.toInt C (6 + 3 * i) R (1 + i) := VR.n h8 hv
  exact ⟨h1, h2, h3, h4, h5, h6, h7, this⟩
theorem rS_n {C R : jM} {v : Int32} (h : rS C R) (hv : (jI C 31 1).toInt ≤ v.toInt) : rS (jsI C 31 1 v) R := by
  obtain ⟨h1, h2, h3, h4, h5, h6, h7⟩ := h
  refine ⟨h1, h2, h3, h4, h5, h6, fun k hk => ?_⟩
  obtain ⟨r, q1, q2, q3, q4, q5⟩ := h7 k hk
  refine ⟨r, q1, q2, q3, q4, fun z => ?_⟩
  have : VR v.toInt C (2023 + 2 * r) R (201 + k) := VR.n (q5 z) hv
  exact this
theorem q_person {C R : jM} (hC : Lay C) (hR : Lay R) (h : Rel C R) {c : Int32} (hc : c = 0 ∨ c = 1) (d : Int32) : Sim (f_X11_person 0 c d) (f_X12_person 2398 c d) C R := by
  obtain ⟨n1, n2, n3, n4⟩ := h.P
  unfold Sim f_X11_person f_X12_person f_X6_addPerson
  by_cases c1 : -40000 ≤ d.toInt ∧ d.toInt ≤ 389
  · by_cases c2 : (jI C 31 1).toInt < 16
    · have hA1 : jA 2 15 (jI C 31 1) = true := jA_iff.mpr ⟨k_2, n2, by rw [ln_2]; omega⟩
      have hA2 : jA 3 13 (jI C 31 1) = true := jA_iff.mpr ⟨k_3, n2, by rw [ln_3]; omega⟩
      have hA3 : jA 2427 15 (jI C 31 1) = true := jA_iff.mpr ⟨k_2427, n2, by rw [ln_2427]; omega⟩
      have hA4 : jA 2428 13 (jI C 31 1) = true := jA_iff.mpr ⟨k_2428, n2, by rw [ln_2428]; omega⟩
      simp only [ly_69 hC, ly_32 hC, ly_33 hC, ly_136 hR, ly_137 hR, k_0, k_1, k_2398, in0, i_le, i_lt, i2l_toInt, Int32.reduceToInt, Int64.reduceToInt, t_m40, t_lm40, nar_b hc, m_I_sI, m_L_sI, m_R_sI, m_AI_sI, m_AL_sI, m_AD_sI, m_AR_sI, m_n_sI, m_I_sL, m_L_sL, m_R_sL, m_AI_sL, m_AL_sL, m_AD_sL, m_AR_sL, m_n_sL, m_I_sR, m_L_sR, m_R_sR, m_AI_sR, m_AL_sR, m_AD_sR, m_AR_sR, m_n_sR, m_I_rI, m_L_rI, m_R_rI, m_AI_rI, m_AL_rI, m_AD_rI, m_AR_rI, m_n_rI, m_I_rL, m_L_rL, m_R_rL, m_AI_rL, m_AL_rL, m_AD_rL, m_AR_rL, m_n_rL, m_I_rD, m_L_rD, m_R_rD, m_AI_rD, m_AL_rD, m_AD_rD, m_AR_rD, m_n_rD, m_I_rR, m_L_rR, m_R_rR, m_AI_rR, m_AL_rR, m_AD_rR, m_AR_rR, m_n_rR, true_and, and_true, and_false, false_and, and_self, if_true, if_false, ite_self, Nat.reduceEqDiff, reduceIte, Option.bind_some, jlet, jbd_some, jbd_ite, bind_ite, ← n1, hA1, hA2, hA3, hA4]
      simp only [i_eq, Int32.reduceToInt]
      rw [if_neg (by omega), if_pos (by omega), if_pos (by omega), if_neg (by omega), if_neg (by omega)]
      have hnn : (jI C 31 1 + 1).toInt = (jI C 31 1).toInt + 1 := i_add (by rw [show (1 : Int32).toInt = 1 from rfl]; omega) (by rw [show (1 : Int32).toInt = 1 from rfl]; omega)
      have hF : Fr (fun t f a => (t = 0 ∧ f = 31 ∧ a = 1) ∨ (t = 3 ∧ (a = 2 ∨ a = 3))) C (jsI (jrI (jrI C 2 (upd (jAI C 2) (jI C 31 1).toNatClampNeg c)) 3 (upd (jAI C 3) (jI C 31 1).toNatClampNeg d)) 31 1 (jI C 31 1 + 1)) := (((Fr.refl).rI (by omega)).rI (by omega)).sI (by omega)
      have hG : Fr (fun t f a => (t = 0 ∧ f = 138 ∧ a = 2398) ∨ (t = 3 ∧ (a = 2427 ∨ a = 2428))) R (jsI (jrI (jrI R 2427 (upd (jAI R 2427) (jI C 31 1).toNatClampNeg c)) 2428 (upd (jAI R 2428) (jI C 31 1).toNatClampNeg d)) 138 2398 (jI C 31 1 + 1)) := (((Fr.refl).rI (by omega)).rI (by omega)).sI (by omega)
      have hs : ∀ s, s < 225 → sS R (jsI (jrI (jrI R 2427 (upd (jAI R 2427) (jI C 31 1).toNatClampNeg c)) 2428 (upd (jAI R 2428) (jI C 31 1).toNatClampNeg d)) 138 2398 (jI C 31 1 + 1)) s := fun s _ => hG.sS (fun a _ _ => by omega) s
      have hx : ∀ t, t < 33 → sX R (jsI (jrI (jrI R 2427 (upd (jAI R 2427) (jI C 31 1).toNatClampNeg c)) 2428 (upd (jAI R 2428) (jI C 31 1).toNatClampNeg d)) 138 2398 (jI C 31 1 + 1)) t := fun t _ => hG.sX (fun a _ _ => by omega) t
      have hF1 : Fr (fun t f a => t = 3 ∧ (a = 2 ∨ a = 3)) C (jrI (jrI C 2 (upd (jAI C 2) (jI C 31 1).toNatClampNeg c)) 3 (upd (jAI C 3) (jI C 31 1).toNatClampNeg d)) := ((Fr.refl).rI (by omega)).rI (by omega)
      have hnn2 : (jI (jrI (jrI C 2 (upd (jAI C 2) (jI C 31 1).toNatClampNeg c)) 3 (upd (jAI C 3) (jI C 31 1).toNatClampNeg d)) 31 1).toInt ≤ (jI C 31 1 + 1).toInt := by rw [m_I_rI, m_I_rI]; omega
      have hP : rP (jsI (jrI (jrI C 2 (upd (jAI C 2) (jI C 31 1).toNatClampNeg c)) 3 (upd (jAI C 3) (jI C 31 1).toNatClampNeg d)) 31 1 (jI C 31 1 + 1)) (jsI (jrI (jrI R 2427 (upd (jAI R 2427) (jI C 31 1).toNatClampNeg c)) 2428 (upd (jAI R 2428) (jI C 31 1).toNatClampNeg d)) 138 2398 (jI C 31 1 + 1)) := by
        unfold rP
        simp only [m_I_sI, m_L_sI, m_R_sI, m_AI_sI, m_AL_sI, m_AD_sI, m_AR_sI, m_n_sI, m_I_sL, m_L_sL, m_R_sL, m_AI_sL, m_AL_sL, m_AD_sL, m_AR_sL, m_n_sL, m_I_sR, m_L_sR, m_R_sR, m_AI_sR, m_AL_sR, m_AD_sR, m_AR_sR, m_n_sR, m_I_rI, m_L_rI, m_R_rI, m_AI_rI, m_AL_rI, m_AD_rI, m_AR_rI, m_n_rI, m_I_rL, m_L_rL, m_R_rL, m_AI_rL, m_AL_rL, m_AD_rL, m_AR_rL, m_n_rL, m_I_rD, m_L_rD, m_R_rD, m_AI_rD, m_AL_rD, m_AD_rD, m_AR_rD, m_n_rD, m_I_rR, m_L_rR, m_R_rR, m_AI_rR, m_AL_rR, m_AD_rR, m_AR_rR, m_n_rR, true_and, and_true, and_false, false_and, and_self, if_true, if_false, ite_self, Nat.reduceEqDiff, reduceIte, Option.bind_some, jlet, jbd_some, jbd_ite, bind_ite, hnn]
        refine ⟨by omega, by omega, fun j hj => ?_⟩
        by_cases hj2 : j = (jI C 31 1).toNatClampNeg
        · subst hj2
          simp only [upd_if, if_true]
          exact ⟨trivial, trivial, hc⟩
        · simp only [upd_if, if_neg hj2]
          exact n4 j (by rw [i_cl] at hj2; omega)
      refine ⟨_, _, _, rfl, by rw [t_as], ?_, hF.mono (fun t f a z => by have := k16 a; unfold pC; omega), hG.mono (fun t f a z => by have := k16r a; unfold pR; omega)⟩
      exact ⟨rT_f hF hG (fun t f a => by unfold cT; omega) (fun t f a => by unfold mT; omega) h.T,
          rN_f hF hG (fun t f a => by unfold cN; omega) (fun t f a => by unfold mN; omega) h.N,
          hP,
          rD_n (rD_f hF1 hG (fun t f a => by unfold cD; omega) (fun _ _ _ z => z.elim) (hs 0 (by omega)) h.D) hnn2,
          rF_n (rF_f hF1 hG (fun t f a => by unfold cF; omega) (fun t f a => by unfold mF; omega) (fun s _ _ => hs s (by omega)) h.F) hnn2,
          rU_f hF hG (fun t f a => by unfold cU; omega) (fun t f a => by unfold mU; omega) h.U,
          rA_f hF hG (fun t f a => by unfold cA; omega) (fun t f a => by unfold mA; omega) h.A,
          rY_f hF hG (fun t f a => by unfold cY; omega) (fun t f a => by unfold mY; omega) h.Y,
          rR_f hF hG (fun t f a => by unfold cR; omega) (fun t f a => by unfold mR; omega) h.R,
          rS_n (rS_f hF1 hG (fun t f a => by unfold cS; omega) (fun t f a => by unfold mS; omega) (fun s _ _ => hs s (by omega)) h.S) hnn2,
          rE_f hF hG (fun t f a => by unfold cE; omega) (fun t f a => by unfold mE; omega) (fun t _ => hx t (by omega)) h.E⟩
    · simp only [ly_69 hC, k_0, k_1, k_2398, in0, i_le, i_lt, i2l_toInt, Int32.reduceToInt, Int64.reduceToInt, t_m40, t_lm40, true_and, and_true, and_false, false_and, and_self, if_true, if_false, ite_self, Nat.reduceEqDiff, reduceIte, Option.bind_some, jlet, jbd_some, jbd_ite, bind_ite, ← n1]
      simp only [i_eq, Int32.reduceToInt]
      rw [if_neg (by omega), if_pos (by omega), if_neg (by omega), if_neg (by omega), if_pos (by omega)]
      exact ⟨_, _, _, rfl, rfl, h.fr_self⟩
  · simp only [ly_69 hC, k_0, k_1, k_2398, in0, i_le, i_lt, i2l_toInt, Int32.reduceToInt, Int64.reduceToInt, t_m40, t_lm40, true_and, and_true, and_false, false_and, and_self, if_true, if_false, ite_self, Nat.reduceEqDiff, reduceIte, Option.bind_some, jlet, jbd_some, jbd_ite, bind_ite]
    by_cases c3 : d.toInt < -40000
    · rw [if_pos c3, if_pos (by omega)]
      exact ⟨_, _, _, rfl, rfl, h.fr_self⟩
    · rw [if_neg c3, if_neg (by omega), if_pos (by omega)]
      exact ⟨_, _, _, rfl, rfl, h.fr_self⟩

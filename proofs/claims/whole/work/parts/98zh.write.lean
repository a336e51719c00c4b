/-! PURE: the desk is written -/
noncomputable def wv (so : Int32) (v : Int64) : Int64 := if so = 2 then v.toInt32.toInt64 else if so = 1 ∨ so = 4 then (if f_X5_isNot v = 0 then v else 9221120237041090560) else v
theorem can_w (v : Int64) : vcan (if f_X5_isNot v = 0 then v else 9221120237041090560) := by
  rw [vcan_iff]
  intro hn
  rw [isNot_ok] at *
  by_cases c : mg v ≤ 9218868437227405312
  · rw [if_pos c, if_pos rfl] at hn
    exact absurd c hn
  · rw [if_neg c, if_neg (by decide)]
theorem set_wv {C : jM} (hC : Lay C) {i : Nat} (hi : i < 12) (v : Int64) : f_X9_setBits 605 (nI i) v C = some (jrL C 606 (vp_updL (jAL C 606) i (wv (jI C 52 605) v))) := by
  have kl := kd_val k_605
  have A1 : jA 606 14 (nI i) = true := jA_n kl.1 (by rw [kl.2]; exact hi) (by omega)
  have g0 : (nI i < 0) = False := by simp only [show ¬ nI i < 0 from nI_neg (by omega)]
  have g12 : nI i < 12 := by rw [show (12 : Int32) = nI 12 from rfl, nJ_lt (by omega) (by omega)]; exact hi
  have lv : jR C 54 605 = some 606 := ly_v hC k_605
  have ck : (nI i).toNatClampNeg = i := nJ_cl (by omega)
  unfold f_X9_setBits f_X9_setBits_47 f_X9_setBits_66 wv
  simp only [g0, g12, k_605, lv, A1, ck, true_and, and_true, and_false, false_and, and_self, if_true, if_false, ite_self, Nat.reduceEqDiff, reduceIte, obt, jlt, jbt, jbd_ite, bind_ite]
  by_cases c2 : jI C 52 605 = 2
  · rw [if_pos c2, if_pos c2]
  · rw [if_neg c2, if_neg c2]
    by_cases c1 : jI C 52 605 = 1
    · have d1 : jI C 52 605 = 1 ∨ jI C 52 605 = 4 := .inl c1
      by_cases cn : f_X5_isNot v = 0
      · simp only [if_pos c1, if_pos d1, if_pos cn]
      · simp only [if_pos c1, if_pos d1, if_neg cn]
    · rw [if_neg c1]
      by_cases c4 : jI C 52 605 = 4
      · have d1 : jI C 52 605 = 1 ∨ jI C 52 605 = 4 := .inr c4
        by_cases cn : f_X5_isNot v = 0
        · simp only [if_pos c4, if_pos d1, if_pos cn]
        · simp only [if_pos c4, if_pos d1, if_neg cn]
      · have d1 : ¬ (jI C 52 605 = 1 ∨ jI C 52 605 = 4) := fun z => z.elim c1 c4
        rw [if_neg c4, if_neg d1]
theorem ref_wv {R : jM} (hR : Lay R) {i : Nat} (hi : i < 12) (so : Int32) (v : Int64) : f_X12_write_76 2398 v so (nI i) R = some (1, if so = 1 ∨ so = 4 then jrD R 2402 (vf_upd (jAD R 2402) i (wv so v).toUInt64) else jrL R 2401 (vp_updL (jAL R 2401) i (wv so v))) := by
  have a91 : jA 2402 12 (nI i) = true := jA_n k_2402 (by rw [ln_2402]; omega) (by omega)
  have a90 : jA 2401 14 (nI i) = true := jA_n k_2401 (by rw [ln_2401]; omega) (by omega)
  have ck : (nI i).toNatClampNeg = i := nJ_cl (by omega)
  have e90 : f_X12_write_90 2398 v (nI i) R = some (1, jrD R 2402 (vf_upd (jAD R 2402) i (if f_X5_isNot v = 0 then v else 9221120237041090560).toUInt64)) := by
    unfold f_X12_write_90
    rw [if_pos k_2398, ly_91 hR, obt, ofBits_ok, obt, if_pos a91, ck, jlt]
  unfold f_X12_write_76 wv
  by_cases c1 : so = 1
  · have d1 : so = 1 ∨ so = 4 := .inl c1
    have n2 : ¬ so = 2 := by rw [c1]; decide
    simp only [if_pos c1, if_pos d1, if_neg n2, e90]
  · rw [if_neg c1]
    by_cases c4 : so = 4
    · have d1 : so = 1 ∨ so = 4 := .inr c4
      have n2 : ¬ so = 2 := by rw [c4]; decide
      simp only [if_pos c4, if_pos d1, if_neg n2, e90]
    · have d1 : ¬ (so = 1 ∨ so = 4) := fun z => z.elim c1 c4
      rw [if_neg c4, if_pos k_2398, ly_90 hR, obt]
      simp only [if_neg d1]
      unfold f_X12_write_123
      by_cases c2 : so = 2
      · rw [if_pos c2, if_pos c2, if_pos a90, ck, jlt]
      · rw [if_neg c2, if_neg c2, if_pos a90, ck, jlt]
/-- the two desks, written alike -/
theorem wr_rel {C R : jM} (h : Rel C R) {i : Nat} (hi : i < 12) (v : Int64) (hso : (jI C 52 605).toInt < 5) :
    Rel (jrL C 606 (vp_updL (jAL C 606) i (wv (jI C 52 605) v))) (if jI C 52 605 = 1 ∨ jI C 52 605 = 4 then jrD R 2402 (vf_upd (jAD R 2402) i (wv (jI C 52 605) v).toUInt64) else jrL R 2401 (vp_updL (jAL R 2401) i (wv (jI C 52 605) v))) ∧ Fr pC C (jrL C 606 (vp_updL (jAL C 606) i (wv (jI C 52 605) v))) ∧ Fr pR R (if jI C 52 605 = 1 ∨ jI C 52 605 = 4 then jrD R 2402 (vf_upd (jAD R 2402) i (wv (jI C 52 605) v).toUInt64) else jrL R 2401 (vp_updL (jAL R 2401) i (wv (jI C 52 605) v))) := by
  have hF : Fr (fun t f a => t = 3 ∧ f = f ∧ a = 606) C (jrL C 606 (vp_updL (jAL C 606) i (wv (jI C 52 605) v))) := (Fr.refl).rL ⟨rfl, rfl, rfl⟩
  obtain ⟨a1, a2, a3, a4⟩ := h.D
  have n606 : ∀ j, jAL (jrL C 606 (vp_updL (jAL C 606) i (wv (jI C 52 605) v))) 606 j = if j = i then wv (jI C 52 605) v else jAL C 606 j := fun j => by simp only [m_I_sI, m_L_sI, m_R_sI, m_AI_sI, m_AL_sI, m_AD_sI, m_AR_sI, m_n_sI, m_I_sL, m_L_sL, m_R_sL, m_AI_sL, m_AL_sL, m_AD_sL, m_AR_sL, m_n_sL, m_I_sR, m_L_sR, m_R_sR, m_AI_sR, m_AL_sR, m_AD_sR, m_AR_sR, m_n_sR, m_I_rI, m_L_rI, m_R_rI, m_AI_rI, m_AL_rI, m_AD_rI, m_AR_rI, m_n_rI, m_I_rL, m_L_rL, m_R_rL, m_AI_rL, m_AL_rL, m_AD_rL, m_AR_rL, m_n_rL, m_I_rD, m_L_rD, m_R_rD, m_AI_rD, m_AL_rD, m_AD_rD, m_AR_rD, m_n_rD, m_I_rR, m_L_rR, m_R_rR, m_AI_rR, m_AL_rR, m_AD_rR, m_AR_rR, m_n_rR, updL_if, true_and, and_true, and_false, false_and, and_self, if_true, if_false, ite_self, Nat.reduceEqDiff, reduceIte, obt, jlt, jbt, jbd_ite, bind_ite]
  by_cases c : jI C 52 605 = 1 ∨ jI C 52 605 = 4
  · rw [if_pos c]
    have cv : vcan (wv (jI C 52 605) v) := by
      unfold wv
      rw [if_neg (fun z => by rcases c with c | c <;> (rw [c] at z; exact absurd z (by decide))), if_pos c]
      exact can_w v
    have ct : (jI C 52 605).toInt = 1 ∨ (jI C 52 605).toInt = 4 := by rcases c with c | c <;> (rw [c]; decide)
    have hG : Fr (fun t f a => t = 3 ∧ f = f ∧ a = 2402) R (jrD R 2402 (vf_upd (jAD R 2402) i (wv (jI C 52 605) v).toUInt64)) := (Fr.refl).rD ⟨rfl, rfl, rfl⟩
    have n02 : ∀ j, jAD (jrD R 2402 (vf_upd (jAD R 2402) i (wv (jI C 52 605) v).toUInt64)) 2402 j = if j = i then (wv (jI C 52 605) v).toUInt64 else jAD R 2402 j := fun j => by simp only [m_I_sI, m_L_sI, m_R_sI, m_AI_sI, m_AL_sI, m_AD_sI, m_AR_sI, m_n_sI, m_I_sL, m_L_sL, m_R_sL, m_AI_sL, m_AL_sL, m_AD_sL, m_AR_sL, m_n_sL, m_I_sR, m_L_sR, m_R_sR, m_AI_sR, m_AL_sR, m_AD_sR, m_AR_sR, m_n_sR, m_I_rI, m_L_rI, m_R_rI, m_AI_rI, m_AL_rI, m_AD_rI, m_AR_rI, m_n_rI, m_I_rL, m_L_rL, m_R_rL, m_AI_rL, m_AL_rL, m_AD_rL, m_AR_rL, m_n_rL, m_I_rD, m_L_rD, m_R_rD, m_AI_rD, m_AL_rD, m_AD_rD, m_AR_rD, m_n_rD, m_I_rR, m_L_rR, m_R_rR, m_AI_rR, m_AL_rR, m_AD_rR, m_AR_rR, m_n_rR, updD_if, true_and, and_true, and_false, false_and, and_self, if_true, if_false, ite_self, Nat.reduceEqDiff, reduceIte, obt, jlt, jbt, jbd_ite, bind_ite]
    have hs : ∀ s, 1 ≤ s → sS R (jrD R 2402 (vf_upd (jAD R 2402) i (wv (jI C 52 605) v).toUInt64)) s := fun s h1 => ⟨rfl, rfl, fun j hj => ⟨rfl, by rw [n02, if_neg (by omega)]⟩⟩
    refine Rel.gen h (hF.mono (fun t f a z => by unfold pGa; omega)) (hG.mono (fun t f a z => by unfold qGa; omega)) (fun s h1 h2 => hs s h1) ?_ (rS_f hF hG (fun t f a => by unfold cS; omega) (fun t f a => by unfold mS; omega) (fun s h1 h2 => hs s (by omega)) h.S)
    refine ⟨a1, a2, a3, fun j hj => ?_⟩
    have := a4 j hj
    unfold vitem at *
    rw [if_pos ct] at this
    rw [if_pos (show (jI (jrL C 606 (vp_updL (jAL C 606) i (wv (jI C 52 605) v))) 52 605).toInt = 1 ∨ (jI (jrL C 606 (vp_updL (jAL C 606) i (wv (jI C 52 605) v))) 52 605).toInt = 4 from ct)]
    have e1 := n606 j
    have e2 := n02 (12 * 0 + j)
    rw [Nat.mul_zero, Nat.zero_add] at e2
    simp only [Nat.mul_zero, Nat.zero_add, Nat.reduceAdd] at this ⊢
    rw [e1, e2]
    by_cases cj : j = i
    · rw [if_pos cj, if_pos cj]; exact ⟨rfl, cv⟩
    · rw [if_neg cj, if_neg cj]; exact this
  · rw [if_neg c]
    have ct : ¬ ((jI C 52 605).toInt = 1 ∨ (jI C 52 605).toInt = 4) := fun z => c (z.elim (fun z => .inl (i_eq.mpr z)) (fun z => .inr (i_eq.mpr z)))
    have hG : Fr (fun t f a => t = 3 ∧ f = f ∧ a = 2401) R (jrL R 2401 (vp_updL (jAL R 2401) i (wv (jI C 52 605) v))) := (Fr.refl).rL ⟨rfl, rfl, rfl⟩
    have n01 : ∀ j, jAL (jrL R 2401 (vp_updL (jAL R 2401) i (wv (jI C 52 605) v))) 2401 j = if j = i then wv (jI C 52 605) v else jAL R 2401 j := fun j => by simp only [m_I_sI, m_L_sI, m_R_sI, m_AI_sI, m_AL_sI, m_AD_sI, m_AR_sI, m_n_sI, m_I_sL, m_L_sL, m_R_sL, m_AI_sL, m_AL_sL, m_AD_sL, m_AR_sL, m_n_sL, m_I_sR, m_L_sR, m_R_sR, m_AI_sR, m_AL_sR, m_AD_sR, m_AR_sR, m_n_sR, m_I_rI, m_L_rI, m_R_rI, m_AI_rI, m_AL_rI, m_AD_rI, m_AR_rI, m_n_rI, m_I_rL, m_L_rL, m_R_rL, m_AI_rL, m_AL_rL, m_AD_rL, m_AR_rL, m_n_rL, m_I_rD, m_L_rD, m_R_rD, m_AI_rD, m_AL_rD, m_AD_rD, m_AR_rD, m_n_rD, m_I_rR, m_L_rR, m_R_rR, m_AI_rR, m_AL_rR, m_AD_rR, m_AR_rR, m_n_rR, updL_if, true_and, and_true, and_false, false_and, and_self, if_true, if_false, ite_self, Nat.reduceEqDiff, reduceIte, obt, jlt, jbt, jbd_ite, bind_ite]
    have hs : ∀ s, 1 ≤ s → sS R (jrL R 2401 (vp_updL (jAL R 2401) i (wv (jI C 52 605) v))) s := fun s h1 => ⟨rfl, rfl, fun j hj => ⟨by rw [n01, if_neg (by omega)], rfl⟩⟩
    refine Rel.gen h (hF.mono (fun t f a z => by unfold pGa; omega)) (hG.mono (fun t f a z => by unfold qGa; omega)) (fun s h1 h2 => hs s h1) ?_ (rS_f hF hG (fun t f a => by unfold cS; omega) (fun t f a => by unfold mS; omega) (fun s h1 h2 => hs s (by omega)) h.S)
    exact VR_w (i := i) (x := wv (jI C 52 605) v) ⟨a1, a2, a3, a4⟩ rfl rfl rfl rfl rfl (by rw [Nat.mul_zero, Nat.zero_add]; rfl) rfl ct (fun z => absurd z (by omega)) (by omega)

/-! PURE: the evaluator: the class's steps -/
theorem aF {f : Nat} (hf : f < 300) : jA 812 13 (nI f) = true ∧ jA 813 13 (nI f) = true ∧ jA 814 13 (nI f) = true ∧ jA 815 13 (nI f) = true ∧ jA 816 14 (nI f) = true ∧ (nI f).toNatClampNeg = f :=
  ⟨jA_n k_812 (by rw [ln_812]; omega) (by omega), jA_n k_813 (by rw [ln_813]; omega) (by omega), jA_n k_814 (by rw [ln_814]; omega) (by omega), jA_n k_815 (by rw [ln_815]; omega) (by omega), jA_n k_816 (by rw [ln_816]; omega) (by omega), nJ_cl (by omega)⟩
theorem f_1 {f : Nat} (h : 0 < f) (h2 : f ≤ 300) : nI f - (1 : Int32) = nI (f - 1) := nJ_sub (a := f) (b := 1) (by omega) (by omega)
/-- a frame more -/
def psh (f i h r : Nat) (S : jM) : jM := jsI (jrI (jrI (jrI (jrI S 812 (upd (jAI S 812) f (nI i))) 813 (upd (jAI S 813) f 0)) 814 (upd (jAI S 814) f (nI h))) 815 (upd (jAI S 815) f (nI r))) 60 811 (nI (f + 1))
theorem enter_ok {T np f i h r : Nat} {S : jM} (hS : Lay S) (hT : jR S 65 811 = some T) (hk : jK T = 6) (h45 : jI S 45 T = nI np) (hnp : np ≤ 300) (hi : i < np) (h60 : jI S 60 811 = nI f) (hf : f < 300) (h62 : jI S 62 811 = nI h) : f_X10_enter 811 (nI i) (nI r) S = some (psh f i h r S) := by
  obtain ⟨a1, a2, a3, a4, a5, a6⟩ := aF hf
  unfold f_X10_enter psh
  rw [if_neg (nI_neg (by omega)), if_pos k_811, hT, obt, if_pos hk, h45, if_neg (by rw [nJ_le (by omega) (by omega)]; omega), h60, if_pos (by rw [show (300 : Int32) = nI 300 from rfl, nJ_lt (by omega) (by omega)]; omega)]
  simp only [ly_56 hS, ly_57 hS, ly_58 hS, ly_59 hS, h60, h62, a1, a2, a3, a4, a6, nJ_1 (show f + 1 < 2147483648 by omega), m_I_sI, m_L_sI, m_R_sI, m_AI_sI, m_AL_sI, m_AD_sI, m_AR_sI, m_n_sI, m_I_sL, m_L_sL, m_R_sL, m_AI_sL, m_AL_sL, m_AD_sL, m_AR_sL, m_n_sL, m_I_sR, m_L_sR, m_R_sR, m_AI_sR, m_AL_sR, m_AD_sR, m_AR_sR, m_n_sR, m_I_rI, m_L_rI, m_R_rI, m_AI_rI, m_AL_rI, m_AD_rI, m_AR_rI, m_n_rI, m_I_rL, m_L_rL, m_R_rL, m_AI_rL, m_AL_rL, m_AD_rL, m_AR_rL, m_n_rL, m_I_rD, m_L_rD, m_R_rD, m_AI_rD, m_AL_rD, m_AD_rD, m_AR_rD, m_n_rD, m_I_rR, m_L_rR, m_R_rR, m_AI_rR, m_AL_rR, m_AD_rR, m_AR_rR, m_n_rR, true_and, and_true, and_false, false_and, and_self, if_true, if_false, ite_self, Nat.reduceEqDiff, reduceIte, obt, jlt, jbt, jbd_ite, bind_ite]
theorem inn_ok {T np k j i : Nat} {S : jM} (hS : Lay S) (hk : jK T = 6) (h45 : jI S 45 T = nI np) (hnp : np ≤ 300) (hkn : k < np) (hj : j < 3) (hi : jAI S (T + 3) (3 * k + j) = nI i) : f_X8_inner T (nI k) (nI j) S = some (nI i) := by
  have kt := kd_text hk
  have hL := hS.2.2.2.1 T hk
  have hx : nI k * (3 : Int32) + nI j = nI (3 * k + j) := by
    have hm : nI k * (3 : Int32) = nI (3 * k) := by
      rw [i_eq, nI_toInt (by omega), i_mul (by rw [nI_toInt (by omega), show (3 : Int32).toInt = 3 from rfl]; omega) (by rw [nI_toInt (by omega), show (3 : Int32).toInt = 3 from rfl]; omega), nI_toInt (by omega), show (3 : Int32).toInt = 3 from rfl]; omega
    rw [hm, nJ_add (by omega)]
  have hA : jA (T + 3) 13 (nI (3 * k + j)) = true := jA_n kt.2.2.1.1 (by omega) (by omega)
  unfold f_X8_inner
  rw [if_neg (nI_neg (by omega)), if_pos hk, h45, if_neg (by rw [nJ_le (by omega) (by omega)]; omega), if_neg (nI_neg (by omega)), if_neg (by rw [show (3 : Int32) = nI 3 from rfl, nJ_le (by omega) (by omega)]; omega), hL.2.2.1, obt, hx, if_pos hA, nJ_cl (by omega), hi]
theorem ent_in {T np f k j i h r : Nat} {S : jM} (hS : Lay S) (hT : jR S 65 811 = some T) (hk : jK T = 6) (h45 : jI S 45 T = nI np) (hnp : np ≤ 300) (hkn : k < np) (hj : j < 3) (hi : jAI S (T + 3) (3 * k + j) = nI i) (hin : i < np) (h60 : jI S 60 811 = nI f) (hf0 : 0 < f) (hf : f < 300) (h62 : jI S 62 811 = nI h) (h815 : jAI S 815 (f - 1) = nI r) (jj : Int32) (hjj : jj = nI j) : f_X10_enterInner 811 (nI k) jj S = some (psh f i h r S) := by
  obtain ⟨a1, a2, a3, a4, a5, a6⟩ := aF (show f - 1 < 300 by omega)
  subst hjj
  unfold f_X10_enterInner
  rw [if_pos k_811, hT, obt, if_pos hk, inn_ok hS hk h45 hnp hkn hj hi, obt, ly_59 hS, obt, h60, f_1 hf0 (by omega), if_pos a4, a6, h815, enter_ok hS hT hk h45 hnp hin h60 hf h62, obt]
theorem leave_ok {f : Nat} {S : jM} (h60 : jI S 60 811 = nI f) (hf0 : 0 < f) (hf : f ≤ 300) : f_X10_leave 811 S = some (jsI S 60 811 (nI (f - 1))) := by
  unfold f_X10_leave
  rw [if_pos k_811, jlt, h60, f_1 hf0 hf]
theorem efail_ok {F f r : Nat} {S : jM} (hS : Lay S) (hF : isF F) (h64 : jR S 64 811 = some F) (h60 : jI S 60 811 = nI f) (hf0 : 0 < f) (hf : f ≤ 300) (h815 : jAI S 815 (f - 1) = nI r) (c : Int32) : f_X10_fail 811 c S = some (jsI (jsI S 7 F c) 8 F (nI r)) := by
  obtain ⟨a1, a2, a3, a4, a5, a6⟩ := aF (show f - 1 < 300 by omega)
  have hk := hF.k
  have n811 : ¬ 811 = F := by unfold isF at hF; omega
  unfold f_X10_fail
  rw [if_pos k_811, h64, obt, if_pos hk, jlt]
  simp only [h64, ly_59 hS, h60, f_1 hf0 hf, a4, a6, h815, hk, m_I_sI, m_L_sI, m_R_sI, m_AI_sI, m_AL_sI, m_AD_sI, m_AR_sI, m_n_sI, m_I_sL, m_L_sL, m_R_sL, m_AI_sL, m_AL_sL, m_AD_sL, m_AR_sL, m_n_sL, m_I_sR, m_L_sR, m_R_sR, m_AI_sR, m_AL_sR, m_AD_sR, m_AR_sR, m_n_sR, m_I_rI, m_L_rI, m_R_rI, m_AI_rI, m_AL_rI, m_AD_rI, m_AR_rI, m_n_rI, m_I_rL, m_L_rL, m_R_rL, m_AI_rL, m_AL_rL, m_AD_rL, m_AR_rL, m_n_rL, m_I_rD, m_L_rD, m_R_rD, m_AI_rD, m_AL_rD, m_AD_rD, m_AR_rD, m_n_rD, m_I_rR, m_L_rR, m_R_rR, m_AI_rR, m_AL_rR, m_AD_rR, m_AR_rR, m_n_rR, true_and, and_true, and_false, false_and, and_self, if_true, if_false, ite_self, Nat.reduceEqDiff, reduceIte, obt, jlt, jbt, jbd_ite, bind_ite]
theorem spend_ok {F f r w c : Nat} {S : jM} (hS : Lay S) (hF : isF F) (h64 : jR S 64 811 = some F) (h60 : jI S 60 811 = nI f) (hf0 : 0 < f) (hf : f ≤ 300) (h815 : jAI S 815 (f - 1) = nI r) (h9 : jI S 9 F = nI w) (hw : w ≤ 400) (hc : c ≤ 400) (cc : Int32) (hcc : cc = nI c) : f_X10_spend 811 cc S = if w + c ≤ 400 then some (1, jsI S 9 F (nI (w + c))) else some (0, jsI (jsI S 7 F 7) 8 F (nI r)) := by
  have hk := hF.k
  subst hcc
  unfold f_X10_spend
  rw [if_pos k_811, h64, obt, if_pos hk, h9, nJ_add (by omega), obt, if_pos hk, jlt, h9, nJ_add (by omega), efail_ok hS hF h64 h60 hf0 hf h815, obt]
  by_cases c1 : w + c ≤ 400
  · rw [if_pos c1, if_pos (by rw [show (400 : Int32) = nI 400 from rfl, nJ_le (by omega) (by omega)]; exact c1)]
  · rw [if_neg c1, if_neg (by rw [show (400 : Int32) = nI 400 from rfl, nJ_le (by omega) (by omega)]; exact c1)]
/-- what a part costs -/
def wk (kd : Int32) : Nat := if kd = 149 then 150 else if kd = 136 ∨ kd = 137 ∨ kd = 151 ∨ kd = 152 then 25 else 1
theorem wk_ok (kd : Int32) : f_X10_workOf kd = nI (wk kd) := by
  unfold f_X10_workOf wk
  by_cases c1 : kd = 136
  · rw [if_pos c1, if_neg (by rw [c1]; decide), if_pos (.inl c1)]; rfl
  · rw [if_neg c1]
    by_cases c2 : kd = 137
    · rw [if_pos c2, if_neg (by rw [c2]; decide), if_pos (.inr (.inl c2))]; rfl
    · rw [if_neg c2]
      by_cases c3 : kd = 149
      · rw [if_pos c3, if_pos c3]; rfl
      · rw [if_neg c3, if_neg c3]
        by_cases c4 : kd = 151
        · rw [if_pos c4, if_pos (.inr (.inr (.inl c4)))]; rfl
        · rw [if_neg c4]
          by_cases c5 : kd = 152
          · rw [if_pos c5, if_pos (.inr (.inr (.inr c5)))]; rfl
          · rw [if_neg c5, if_neg (fun z => by rcases z with z | z | z | z <;> contradiction)]; rfl
theorem wk_b (kd : Int32) : 1 ≤ wk kd ∧ wk kd ≤ 150 := by unfold wk; split <;> (try split) <;> omega
theorem turn_ok {F T np f k st h r : Nat} {S : jM} (hS : Lay S) (hF : isF F) (h65 : jR S 65 811 = some T) (hk : jK T = 6) (hnp : np ≤ 300) (hkn : k < np) (hT : TOP f k st h r S) (hst : st < 2147483648) : f_X10_turn 811 S = if st = 0 then jbd (f_X10_spend 811 (f_X10_workOf (jAI S (T + 1) k)) S) (fun x91 S92 => if x91 = 0 then some S92 else f_X10_turn_50 811 (nI k) (jAI S (T + 1) k) 0 S92) else f_X10_turn_50 811 (nI k) (jAI S (T + 1) k) (nI st) S := by
  obtain ⟨t1, t2, t3, t4, t5, t6⟩ := hT
  obtain ⟨a1, a2, a3, a4, a5, a6⟩ := aF (show f - 1 < 300 by omega)
  have kt := kd_text hk
  have hL := hS.2.2.2.1 T hk
  have hA : jA (T + 1) 13 (nI k) = true := jA_n kt.1.1 (by omega) (by omega)
  unfold f_X10_turn
  rw [if_pos k_811, ly_56 hS, obt, t1, f_1 t2.1 t2.2, if_pos a1, a6, t3, jlt, h65, obt, if_pos hk, hL.1, obt, if_pos hA, nJ_cl (by omega), jlt, ly_57 hS, obt, if_pos a2, t4, jlt]
  by_cases c : st = 0
  · subst c
    rw [if_pos (show nI 0 = 0 from rfl), if_pos rfl]
    rfl
  · rw [if_neg c, if_neg (by rw [i_eq, t_0, nI_toInt (by omega)]; omega)]

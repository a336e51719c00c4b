/-! PURE: the evaluator: IF and TRY -/
theorem jsI2 {S : jM} {f a : Nat} {v w : Int32} : jsI (jsI S f a w) f a v = jsI S f a v := by
  unfold jsI
  refine congrArg (fun z => (S.1, z, S.2.2)) ?_
  funext g b
  show (if g = f ∧ b = a then v else (if g = f ∧ b = a then w else S.2.1 g b)) = (if g = f ∧ b = a then v else S.2.1 g b)
  by_cases c : g = f ∧ b = a
  · rw [if_pos c, if_pos c]
  · rw [if_neg c, if_neg c, if_neg c]
theorem h_lt {h : Nat} (hh : h < 600) : ¬ nI h < (0 : Int32) ∧ nI h < (600 : Int32) := ⟨by rw [i_lt, t_0, nI_toInt (by omega)]; omega, by rw [show (600 : Int32) = nI 600 from rfl, i_lt, nI_toInt (by omega), nI_toInt (by omega)]; omega⟩
theorem dec0_ok {f h k : Nat} {S : jM} (hS : Lay S) (h60 : jI S 60 811 = nI f) (hf : 0 < f ∧ f ≤ 300) (h814 : jAI S 814 (f - 1) = nI h) (hh : h < 590) : f_X10_decide 811 (nI k) (nI 0) S = f_X10_enterInner 811 (nI k) 0 S := by
  obtain ⟨fa1, fa2, fa3, fa4, fa5, fa6⟩ := aF (show f - 1 < 300 by omega)
  obtain ⟨q1, q2⟩ := h_lt (show h < 600 by omega)
  have hid : ∀ o : Option jM, (o.bind fun S1 => some S1) = o := fun o => by cases o <;> rfl
  unfold f_X10_decide
  rw [if_pos k_811, ly_58 hS, obt, h60, f_1 hf.1 hf.2, if_pos fa3, fa6, h814, jlt, if_neg q1, if_pos q2, if_pos (show nI 0 = 0 from rfl), hid]
theorem dec2_ok {f h k : Nat} {S : jM} (hS : Lay S) (h60 : jI S 60 811 = nI f) (hf : 0 < f ∧ f ≤ 300) (h814 : jAI S 814 (f - 1) = nI h) (hh : h < 590) : f_X10_decide 811 (nI k) (nI 2) S = f_X10_leave 811 S := by
  obtain ⟨fa1, fa2, fa3, fa4, fa5, fa6⟩ := aF (show f - 1 < 300 by omega)
  obtain ⟨q1, q2⟩ := h_lt (show h < 600 by omega)
  have hid : ∀ o : Option jM, (o.bind fun S1 => some S1) = o := fun o => by cases o <;> rfl
  unfold f_X10_decide
  rw [if_pos k_811, ly_58 hS, obt, h60, f_1 hf.1 hf.2, if_pos fa3, fa6, h814, jlt, if_neg q1, if_pos q2, if_neg (show ¬ nI 2 = 0 by decide), if_neg (show ¬ nI 2 ≤ (1 : Int32) by decide), hid]
theorem dec1_ok {f h k : Nat} {S : jM} (hS : Lay S) (h60 : jI S 60 811 = nI f) (hf : 0 < f ∧ f ≤ 300) (h814 : jAI S 814 (f - 1) = nI h) (hh : h < 590) : f_X10_decide 811 (nI k) (nI 1) S = if jI S 52 (818 + 2 * h) = 0 then (if jAL S (818 + 2 * h + 1) 0 = 0 then f_X10_enterInner 811 (nI k) 2 (jsI S 62 811 (nI h)) else f_X10_enterInner 811 (nI k) 1 (jsI S 62 811 (nI h))) else f_X10_fail 811 2 S := by
  obtain ⟨fa1, fa2, fa3, fa4, fa5, fa6⟩ := aF (show f - 1 < 300 by omega)
  obtain ⟨q1, q2⟩ := h_lt (show h < 600 by omega)
  have hid : ∀ o : Option jM, (o.bind fun S1 => some S1) = o := fun o => by cases o <;> rfl
  have hFh : Fr (fun t f a => t = 0 ∧ f = 62 ∧ a = 811) S (jsI S 62 811 (nI h)) := (Fr.refl).sI (by omega)
  have hLh : Lay (jsI S 62 811 (nI h)) := hS.fr hFh (fun f a z => by omega) (fun a z => by omega)
  have a17 : jA 817 19 (nI h) = true := jA_n k_817 (by rw [ln_817]; omega) (by omega)
  have c17 : (nI h).toNatClampNeg = h := nJ_cl (by omega)
  have kp := kf_pile (show h < 600 by omega)
  have kz : jA (818 + 2 * h + 1) 14 0 = true := jAz (kd_val kp).1 (by rw [(kd_val kp).2]; decide)
  have e819 : jAL (jsI S 62 811 (nI h)) (818 + 2 * h + 1) = jAL S (818 + 2 * h + 1) := rfl
  have l61 : jR (jsI S 62 811 (nI h)) 61 811 = some 817 := ly_61 hLh
  have lpl : jAR (jsI S 62 811 (nI h)) 817 h = some (818 + 2 * h) := ly_pl hLh (by omega)
  have lpl0 : jAR S 817 h = some (818 + 2 * h) := ly_pl hS (by omega)
  have lv : jR (jsI S 62 811 (nI h)) 54 (818 + 2 * h) = some (818 + 2 * h + 1) := ly_v hLh kp
  unfold f_X10_decide f_X10_decide_105
  rw [if_pos k_811, ly_58 hS, obt, h60, f_1 hf.1 hf.2, if_pos fa3, fa6, h814, jlt, if_neg q1, if_pos q2, if_neg (show ¬ nI 1 = 0 by decide), if_pos (show nI 1 ≤ (1 : Int32) by decide), ly_61 hS, obt, if_pos a17, c17, lpl0, obt, if_pos kp, jlt, l61, obt, if_pos a17, lpl, obt, if_pos kp, lv, obt, if_pos kz, cl0, e819, if_pos k_811, if_pos k_811, hid, hid, hid]
/-- what the acts of IF ask of the state -/
theorem PR.dq {F T t np nr : Nat} {ru : Nat → Nat × Nat × Nat} {n : Int} {ki : Nat → Int32} {co : Nat → Int64} {inn : Nat → Int32} {f k h rs lo hi r : Nat} {C0 R0 : jM} {w0 p0 j o st m : Nat} {s : Nat → Nat} {C R : jM} {w p sc : Nat}
    (hP : PR F T t np nr ru n ki co inn f k h rs lo hi r C0 R0 w0 p0 j o st m s C R w p sc) : Lay (stg f st C) ∧ jI (stg f st C) 60 811 = nI f ∧ (0 < f ∧ f ≤ 300) ∧ jAI (stg f st C) 814 (f - 1) = nI h ∧ h < 590 := by
  have c1 := hP.ct.1
  obtain ⟨a1, a2, a3, a4, a5, a6, -, ⟨b1, b2, b3⟩, -⟩ := hP
  have h400 := a3.1.2.2
  exact ⟨c1, by unfold stg; simp only [m_I_sI, m_L_sI, m_R_sI, m_AI_sI, m_AL_sI, m_AD_sI, m_AR_sI, m_n_sI, m_I_sL, m_L_sL, m_R_sL, m_AI_sL, m_AL_sL, m_AD_sL, m_AR_sL, m_n_sL, m_I_sR, m_L_sR, m_R_sR, m_AI_sR, m_AL_sR, m_AD_sR, m_AR_sR, m_n_sR, m_I_rI, m_L_rI, m_R_rI, m_AI_rI, m_AL_rI, m_AD_rI, m_AR_rI, m_n_rI, m_I_rL, m_L_rL, m_R_rL, m_AI_rL, m_AL_rL, m_AD_rL, m_AR_rL, m_n_rL, m_I_rD, m_L_rD, m_R_rD, m_AI_rD, m_AL_rD, m_AD_rD, m_AR_rD, m_n_rD, m_I_rR, m_L_rR, m_R_rR, m_AI_rR, m_AL_rR, m_AD_rR, m_AR_rR, m_n_rR]; exact a6.1, a6.2.1, by unfold stg; simp only [m_I_sI, m_L_sI, m_R_sI, m_AI_sI, m_AL_sI, m_AD_sI, m_AR_sI, m_n_sI, m_I_sL, m_L_sL, m_R_sL, m_AI_sL, m_AL_sL, m_AD_sL, m_AR_sL, m_n_sL, m_I_sR, m_L_sR, m_R_sR, m_AI_sR, m_AL_sR, m_AD_sR, m_AR_sR, m_n_sR, m_I_rI, m_L_rI, m_R_rI, m_AI_rI, m_AL_rI, m_AD_rI, m_AR_rI, m_n_rI, m_I_rL, m_L_rL, m_R_rL, m_AI_rL, m_AL_rL, m_AD_rL, m_AR_rL, m_n_rL, m_I_rD, m_L_rD, m_R_rD, m_AI_rD, m_AL_rD, m_AD_rD, m_AR_rD, m_n_rD, m_I_rR, m_L_rR, m_R_rR, m_AI_rR, m_AL_rR, m_AD_rR, m_AR_rR, m_n_rR]; rw [if_neg (by omega)]; exact a6.2.2.2.2.1, by omega⟩
/-- the height goes back to the frame's -/
theorem PR.shrink {F T t np nr : Nat} {ru : Nat → Nat × Nat × Nat} {n : Int} {ki : Nat → Int32} {co : Nat → Int64} {inn : Nat → Int32} {f k h rs lo hi r : Nat} {C0 R0 : jM} {w0 p0 j o st m : Nat} {s : Nat → Nat} {C R : jM} {w p sc : Nat}
    (hP : PR F T t np nr ru n ki co inn f k h rs lo hi r C0 R0 w0 p0 j o st m s C R w p sc) (ht : f_X10_turn_50 811 (nI k) (ki k) (nI st) (jsI C 62 811 (nI h)) = f_X10_turn_50 811 (nI k) (ki k) (nI st) C) : PR F T t np nr ru n ki co inn f k h rs lo hi r C0 R0 w0 p0 j o st 0 s (jsI C 62 811 (nI h)) R w p sc := by
  obtain ⟨a1, a2, a3, a4, a5, a6, ⟨a7, a8⟩, ⟨b1, b2, b3, b4, b5, b6'⟩, b6, b7⟩ := hP
  have hF : isF F := a2.2.2.1
  have hFn := hF.n
  have p226 := a3.2.2.2.1
  have hFr : Fr (fun t f a => t = 0 ∧ f = 62 ∧ a = 811) C (jsI C 62 811 (nI h)) := (Fr.refl).sI (by omega)
  have k1 : KP F t nr ru f h rs lo hi C R w p (jsI C 62 811 (nI h)) R w p := ⟨hFr.mono (fun t f a z => by unfold pW; omega), Fr.refl, fun i _ => ⟨rfl, rfl, rfl, rfl⟩, fun i _ => ⟨hFr.sP (fun t f => by omega), hFr.sP (fun t f => by omega)⟩, fun _ _ => sS.refl, ⟨Nat.le_refl _, Nat.le_refl _⟩, fun q _ => ⟨rfl, rfl⟩, fun r => .inr rfl⟩
  refine ⟨fun C2 hC2 => a1 C2 (by rw [← ht]; exact hC2), k1.es a2 p226.2.1, ?_, a4.trans k1 (Nat.le_refl _) (Nat.le_refl _) (fun q z => z) (Nat.le_refl _), ⟨by rw [hFr.i (by omega)]; exact a5.1, by rw [hFr.i (by omega)]; exact a5.2.1, a5.2.2⟩, ⟨by rw [hFr.i (by omega)]; exact a6.1, a6.2⟩, ⟨by simp only [m_I_sI, m_L_sI, m_R_sI, m_AI_sI, m_AL_sI, m_AD_sI, m_AR_sI, m_n_sI, m_I_sL, m_L_sL, m_R_sL, m_AI_sL, m_AL_sL, m_AD_sL, m_AR_sL, m_n_sL, m_I_sR, m_L_sR, m_R_sR, m_AI_sR, m_AL_sR, m_AD_sR, m_AR_sR, m_n_sR, m_I_rI, m_L_rI, m_R_rI, m_AI_rI, m_AL_rI, m_AD_rI, m_AR_rI, m_n_rI, m_I_rL, m_L_rL, m_R_rL, m_AI_rL, m_AL_rL, m_AD_rL, m_AR_rL, m_n_rL, m_I_rD, m_L_rD, m_R_rD, m_AI_rD, m_AL_rD, m_AD_rD, m_AR_rD, m_n_rD, m_I_rR, m_L_rR, m_R_rR, m_AI_rR, m_AL_rR, m_AD_rR, m_AR_rR, m_n_rR, true_and, and_true, and_false, false_and, and_self, if_true, if_false, ite_self, Nat.reduceEqDiff, reduceIte, obt, jlt, jbt, jbd_ite, bind_ite]; rfl, a8⟩, ⟨b1, by omega, b3, b4, b5, b6'⟩, fun i hi => absurd hi (by omega), b7⟩
  exact a3.f (by rw [hFr.i (by omega)]; exact a3.1.1) a3.1.2.1 a3.1.2.2 ((hFr.i (by omega)).trans a3.2.1.1) ((hFr.i (by omega)).trans a3.2.1.2) (hFr.i (by omega)) rfl p226.1 (Nat.le_refl _) p226.2.2 (fun a h1 h2 h3 => hFr.sP (fun t f => by omega)) (fun _ _ _ => rfl) (fun _ _ => sS.refl)
/-- the frame is left with the VALUE of an inner -/
theorem PR.leaves {F T t np nr : Nat} {ru : Nat → Nat × Nat × Nat} {n : Int} {ki : Nat → Int32} {co : Nat → Int64} {inn : Nat → Int32} {f k h rs lo hi r : Nat} {C0 R0 : jM} {w0 p0 j o st : Nat} {s : Nat → Nat} {C R : jM} {w p sc : Nat}
    (hP : PR F T t np nr ru n ki co inn f k h rs lo hi r C0 R0 w0 p0 j o st 1 s C R w p sc) (ht : f_X10_turn_50 811 (nI k) (ki k) (nI st) C = f_X10_leave 811 (stg f st C)) (ho : o ≤ 6) : ∃ j' C', it F j' C0 = some C' ∧ RES F t nr ru n f h rs lo hi r C0 R0 w0 p0 j' C' (nI (s 0)) R := by
  obtain ⟨y1, y2, y3, y4, y5, y6, y7, y8⟩ := hP.acts
  obtain ⟨v0, vs⟩ := y4 0 (by omega)
  have a6 := hP.2.2.2.2.2.1
  have a7 := hP.2.2.2.2.2.2.1.1
  have e60 : jI (stg f st C) 60 811 = nI f := by unfold stg; simp only [m_I_sI, m_L_sI, m_R_sI, m_AI_sI, m_AL_sI, m_AD_sI, m_AR_sI, m_n_sI, m_I_sL, m_L_sL, m_R_sL, m_AI_sL, m_AL_sL, m_AD_sL, m_AR_sL, m_n_sL, m_I_sR, m_L_sR, m_R_sR, m_AI_sR, m_AL_sR, m_AD_sR, m_AR_sR, m_n_sR, m_I_rI, m_L_rI, m_R_rI, m_AI_rI, m_AL_rI, m_AD_rI, m_AR_rI, m_n_rI, m_I_rL, m_L_rL, m_R_rL, m_AI_rL, m_AL_rL, m_AD_rL, m_AR_rL, m_n_rL, m_I_rD, m_L_rD, m_R_rD, m_AI_rD, m_AL_rD, m_AD_rD, m_AR_rD, m_n_rD, m_I_rR, m_L_rR, m_R_rR, m_AI_rR, m_AL_rR, m_AD_rR, m_AR_rR, m_n_rR]; exact a6.1
  refine hP.opr stg_fr (by unfold stg; simp only [m_I_sI, m_L_sI, m_R_sI, m_AI_sI, m_AL_sI, m_AD_sI, m_AR_sI, m_n_sI, m_I_sL, m_L_sL, m_R_sL, m_AI_sL, m_AL_sL, m_AD_sL, m_AR_sL, m_n_sL, m_I_sR, m_L_sR, m_R_sR, m_AI_sR, m_AL_sR, m_AD_sR, m_AR_sR, m_n_sR, m_I_rI, m_L_rI, m_R_rI, m_AI_rI, m_AL_rI, m_AD_rI, m_AR_rI, m_n_rI, m_I_rL, m_L_rL, m_R_rL, m_AI_rL, m_AL_rL, m_AD_rL, m_AR_rL, m_n_rL, m_I_rD, m_L_rD, m_R_rD, m_AI_rD, m_AL_rD, m_AD_rD, m_AR_rD, m_n_rD, m_I_rR, m_L_rR, m_R_rR, m_AI_rR, m_AL_rR, m_AD_rR, m_AR_rR, m_n_rR, true_and, and_true, and_false, false_and, and_self, if_true, if_false, ite_self, Nat.reduceEqDiff, reduceIte, obt, jlt, jbt, jbd_ite, bind_ite]) (opr_same y5 vs y6 v0) (fun _ => ⟨_, ht.trans (leave_ok e60 a6.2.1.1 a6.2.1.2), (Fr.refl).sI (by omega), by simp only [m_I_sI, m_L_sI, m_R_sI, m_AI_sI, m_AL_sI, m_AD_sI, m_AR_sI, m_n_sI, m_I_sL, m_L_sL, m_R_sL, m_AI_sL, m_AL_sL, m_AD_sL, m_AR_sL, m_n_sL, m_I_sR, m_L_sR, m_R_sR, m_AI_sR, m_AL_sR, m_AD_sR, m_AR_sR, m_n_sR, m_I_rI, m_L_rI, m_R_rI, m_AI_rI, m_AL_rI, m_AD_rI, m_AR_rI, m_n_rI, m_I_rL, m_L_rL, m_R_rL, m_AI_rL, m_AL_rL, m_AD_rL, m_AR_rL, m_n_rL, m_I_rD, m_L_rD, m_R_rD, m_AI_rD, m_AL_rD, m_AD_rD, m_AR_rD, m_n_rD, m_I_rR, m_L_rR, m_R_rR, m_AI_rR, m_AL_rR, m_AD_rR, m_AR_rR, m_n_rR, true_and, and_true, and_false, false_and, and_self, if_true, if_false, ite_self, Nat.reduceEqDiff, reduceIte, obt, jlt, jbt, jbd_ite, bind_ite], ?_⟩) (fun z => absurd rfl z) ho (fun _ => rfl) (fun _ => rfl)
  unfold stg; simp only [m_I_sI, m_L_sI, m_R_sI, m_AI_sI, m_AL_sI, m_AD_sI, m_AR_sI, m_n_sI, m_I_sL, m_L_sL, m_R_sL, m_AI_sL, m_AL_sL, m_AD_sL, m_AR_sL, m_n_sL, m_I_sR, m_L_sR, m_R_sR, m_AI_sR, m_AL_sR, m_AD_sR, m_AR_sR, m_n_sR, m_I_rI, m_L_rI, m_R_rI, m_AI_rI, m_AL_rI, m_AD_rI, m_AR_rI, m_n_rI, m_I_rL, m_L_rL, m_R_rL, m_AI_rL, m_AL_rL, m_AD_rL, m_AR_rL, m_n_rL, m_I_rD, m_L_rD, m_R_rD, m_AI_rD, m_AL_rD, m_AD_rD, m_AR_rD, m_n_rD, m_I_rR, m_L_rR, m_R_rR, m_AI_rR, m_AL_rR, m_AD_rR, m_AR_rR, m_n_rR, true_and, and_true, and_false, false_and, and_self, if_true, if_false, ite_self, Nat.reduceEqDiff, reduceIte, obt, jlt, jbt, jbd_ite, bind_ite]; exact a7
theorem node_if {F T t np nr : Nat} {ru : Nat → Nat × Nat × Nat} {n : Int} {ki : Nat → Int32} {co : Nat → Int64} {inn : Nat → Int32} {d : Nat} (IH : NC F T t np nr ru n ki co inn d) {f k h rs lo hi r : Nat} {C0 R0 : jM} {w0 p0 : Nat} {s : Nat → Nat} {C R : jM} {w p sc D : Nat}
    (hP : PR F T t np nr ru n ki co inn f k h rs lo hi r C0 R0 w0 p0 0 0 0 0 s C R w p sc) (hD : 2 * d + 1 ≤ D) {A : Nat → Prop} (tok : tOK ki co inn ru nr rs (d + 1) A lo hi k) (hA : ∀ q, A q → rs ≤ q ∧ q < lo ∧ jAL C 816 q = jAL R 2425 (301 * t + q)) (hfd : f + (d + 1) ≤ 301) (hkd : ki k = 135) (hrs : rs ≤ lo) (hhi : hi ≤ np) :
    ∃ x Rb, wnB (g_V D) (nI (301 * t + k)) (kmap (ki k)) R = some (x, Rb) ∧ ∃ j' C', it F j' C0 = some C' ∧ RES F t nr ru n f h rs lo hi r C0 R0 w0 p0 j' C' x Rb := by
  have h146 : ki k ≠ 146 := by rw [hkd]; decide
  have h678 : ki k ≠ 6 ∧ ki k ≠ 7 ∧ ki k ≠ 8 := by rw [hkd]; decide
  have tar3 : tar (ki k) = 3 := by rw [hkd]; decide
  have es := hP.2.1
  have hk := hP.2.2.2.2.2.2.2.1.2.2.2.1
  have ht33 := es.2.2.2.2.1
  have hnp := es.2.2.2.2.2.1
  obtain ⟨n1, n2, n3, n4, n5, n6, n7, n8⟩ := nA ht33 (show k < 301 by omega)
  obtain ⟨i0, j0, tk0, l0, d0⟩ := tOK_in tok h146 (j := 0) (by omega)
  obtain ⟨i1, j1, tk1, l1, -⟩ := tOK_in tok h146 (j := 1) (by omega)
  obtain ⟨i2, j2, tk2, l2, -⟩ := tOK_in tok h146 (j := 2) (by omega)
  obtain ⟨z0, -⟩ := es.in0 hk h678
  have r9 := z0 (by omega) i0 (by omega) j0
  have hid : ∀ o : Option jM, (o.bind fun S1 => some S1) = o := fun o => by cases o <;> rfl
  have tbd : ∀ (st : Int32) (S6 : jM), tb k (ki k) st S6 = f_X10_decide 811 (nI k) st S6 := fun st S6 => by
    rw [hkd]
    unfold tb
    rw [if_neg (by decide), if_neg (by decide), if_neg (by decide), if_neg (by decide), if_neg (by decide), if_neg (by decide), if_pos rfl, hid]
  obtain ⟨D', rfl⟩ : ∃ D', D = D' + 1 := ⟨D - 1, by omega⟩
  have hD' : 2 * d ≤ D' := by omega
  have hw : wnB (g_V (D' + 1)) (nI (301 * t + k)) (kmap (ki k)) R = f_X12_workIf (g_V D') 2398 (nI (301 * t + k)) R := by
    rw [hkd]
    unfold wnB
    rw [if_neg (by decide), if_pos (by decide), hjd, gV2]
  rw [hw]
  have ht0 : f_X10_turn_50 811 (nI k) (ki k) (nI 0) C = some (psh f i0 (h + 0) r (jrI C 813 (upd (jAI C 813) (f - 1) (nI (0 + 1))))) := by
    rw [hP.ct.2.2.2.2.2.2.2.1, tbd]
    obtain ⟨g1, g2, g3, g4, g5⟩ := hP.dq
    rw [dec0_ok g1 g2 g3 g4 g5]
    exact hP.into (show 0 < 3 by omega) j0 (by omega) (by omega) 0 rfl
  obtain ⟨x0, R1, g0, q⟩ := hP.inner IH hD' ht0 tk0 (Nat.le_refl _) (Nat.le_refl _) hhi hrs hA (by omega)
  rw [← r9] at g0
  rcases q with ⟨jj2, C2, w2, p2, sc2, sl, e1, hP2, hw2, hcn⟩ | ⟨e1, jj2, C2, hPF⟩
  · subst e1
    have es2 := hP2.2.1
    obtain ⟨z0', z1', z2', z3', z4'⟩ := es2.in0 hk h678
    have hA2 : ∀ q, A q → rs ≤ q ∧ q < lo ∧ jAL C2 816 q = jAL R1 2425 (301 * t + q) := fun q hq => by
      obtain ⟨u1, u2, u3⟩ := hA q hq
      obtain ⟨u4, u5⟩ := hcn q (.inl ⟨u1, u2⟩)
      exact ⟨u1, u2, by rw [u4, u5]; exact u3⟩
    obtain ⟨y1, y2, y3, y4, y5, y6, y7, y8⟩ := hP2.acts
    obtain ⟨v0, vs⟩ := y4 0 (by omega)
    simp only [if_true] at v0 vs
    change VR n (stg f 1 C2) (818 + 2 * h) R1 sl at v0
    change Lay (stg f 1 C2) at y1
    obtain ⟨pa1, pa2, pa3⟩ := apn (show sl < 1500 by omega)
    have q12 := (a12p (show sl < 1500 by omega)).1
    have z12 := c12p (show sl < 1500 by omega)
    obtain ⟨ea1, ea2, ea3⟩ := VR_so v0
    have a6 : TOP f k 1 h r C2 := hP2.2.2.2.2.2.1
    -- the class looks at the condition
    have e814 : jAI (stg f 1 C2) 814 (f - 1) = nI h := by unfold stg; simp only [m_I_sI, m_L_sI, m_R_sI, m_AI_sI, m_AL_sI, m_AD_sI, m_AR_sI, m_n_sI, m_I_sL, m_L_sL, m_R_sL, m_AI_sL, m_AL_sL, m_AD_sL, m_AR_sL, m_n_sL, m_I_sR, m_L_sR, m_R_sR, m_AI_sR, m_AL_sR, m_AD_sR, m_AR_sR, m_n_sR, m_I_rI, m_L_rI, m_R_rI, m_AI_rI, m_AL_rI, m_AD_rI, m_AR_rI, m_n_rI, m_I_rL, m_L_rL, m_R_rL, m_AI_rL, m_AL_rL, m_AD_rL, m_AR_rL, m_n_rL, m_I_rD, m_L_rD, m_R_rD, m_AI_rD, m_AL_rD, m_AD_rD, m_AR_rD, m_n_rD, m_I_rR, m_L_rR, m_R_rR, m_AI_rR, m_AL_rR, m_AD_rR, m_AR_rR, m_n_rR]; rw [if_neg (by omega)]; exact a6.2.2.2.2.1
    have e60 : jI (stg f 1 C2) 60 811 = nI f := by unfold stg; simp only [m_I_sI, m_L_sI, m_R_sI, m_AI_sI, m_AL_sI, m_AD_sI, m_AR_sI, m_n_sI, m_I_sL, m_L_sL, m_R_sL, m_AI_sL, m_AL_sL, m_AD_sL, m_AR_sL, m_n_sL, m_I_sR, m_L_sR, m_R_sR, m_AI_sR, m_AL_sR, m_AD_sR, m_AR_sR, m_n_sR, m_I_rI, m_L_rI, m_R_rI, m_AI_rI, m_AL_rI, m_AD_rI, m_AR_rI, m_n_rI, m_I_rL, m_L_rL, m_R_rL, m_AI_rL, m_AL_rL, m_AD_rL, m_AR_rL, m_n_rL, m_I_rD, m_L_rD, m_R_rD, m_AI_rD, m_AL_rD, m_AD_rD, m_AR_rD, m_n_rD, m_I_rR, m_L_rR, m_R_rR, m_AI_rR, m_AL_rR, m_AD_rR, m_AR_rR, m_n_rR]; exact a6.1
    have hFh : Fr (fun t f a => t = 0 ∧ f = 62 ∧ a = 811) (stg f 1 C2) (jsI (stg f 1 C2) 62 811 (nI h)) := (Fr.refl).sI (by omega)
    have hLh : Lay (jsI (stg f 1 C2) 62 811 (nI h)) := y1.fr hFh (fun f a z => by omega) (fun a z => by omega)
    have h590 : h < 590 := hP2.dq.2.2.2.2
    have ed := dec1_ok (k := k) y1 e60 a6.2.1 e814 h590
    -- and so does the reference
    have er : f_X12_workIf (g_V D') 2398 (nI (301 * t + k)) R = if jI (stg f 1 C2) 52 (818 + 2 * h) = 0 then (if jAL (stg f 1 C2) (818 + 2 * h + 1) 0 = 0 then g_V D' 1 2398 (jAI R1 2411 (301 * t + k)) 0 R1 else g_V D' 1 2398 (jAI R1 2410 (301 * t + k)) 0 R1) else jbd (f_X12_failing 2398 (2 : Int32) R1) (fun x27 S28 => some (x27, S28)) := by
      unfold f_X12_workIf f_X12_workIf_62
      rw [if_pos k_2398, ly_104 es.2.1, obt, if_pos n3, n8, g0, jbt, if_pos (by rw [i_le, t_0, nI_toInt (by omega)]; omega), ly_88 es2.2.1, obt, if_pos pa1, pa3, ea1]
      by_cases cs : jI (stg f 1 C2) 52 (818 + 2 * h) = 0
      · have ev := VR_num0 v0 cs
        rw [if_pos cs, if_pos cs, ly_90 es2.2.1, obt, if_pos q12, z12, ← ev, ly_106 es2.2.1, obt, if_pos n5, if_pos k_2398, ly_105 es2.2.1, obt, if_pos n4, if_pos k_2398, hjd, hjd]
      · rw [if_neg cs, if_neg cs]
    rw [er]
    have hj1 : jsI (stg f 1 C2) 62 811 (nI h) = stg f 1 (jsI C2 62 811 (nI h)) := rfl
    by_cases cs : jI (stg f 1 C2) 52 (818 + 2 * h) = 0
    · rw [if_pos cs] at ed ⊢
      have hts : f_X10_turn_50 811 (nI k) (ki k) (nI 1) (jsI C2 62 811 (nI h)) = f_X10_turn_50 811 (nI k) (ki k) (nI 1) C2 := by
        have hLs : Lay (jsI C2 62 811 (nI h)) := es2.1.fr (p := fun t f a => t = 0) ((Fr.refl).sI rfl) (fun f a z => absurd z (by omega)) (fun a z => absurd z (by omega))
        have tops : TOP f k 1 h r (jsI C2 62 811 (nI h)) := ⟨by simp only [m_I_sI, m_L_sI, m_R_sI, m_AI_sI, m_AL_sI, m_AD_sI, m_AR_sI, m_n_sI, m_I_sL, m_L_sL, m_R_sL, m_AI_sL, m_AL_sL, m_AD_sL, m_AR_sL, m_n_sL, m_I_sR, m_L_sR, m_R_sR, m_AI_sR, m_AL_sR, m_AD_sR, m_AR_sR, m_n_sR, m_I_rI, m_L_rI, m_R_rI, m_AI_rI, m_AL_rI, m_AD_rI, m_AR_rI, m_n_rI, m_I_rL, m_L_rL, m_R_rL, m_AI_rL, m_AL_rL, m_AD_rL, m_AR_rL, m_n_rL, m_I_rD, m_L_rD, m_R_rD, m_AI_rD, m_AL_rD, m_AD_rD, m_AR_rD, m_n_rD, m_I_rR, m_L_rR, m_R_rR, m_AI_rR, m_AL_rR, m_AD_rR, m_AR_rR, m_n_rR, true_and, and_true, and_false, false_and, and_self, if_true, if_false, ite_self, Nat.reduceEqDiff, reduceIte, obt, jlt, jbt, jbd_ite, bind_ite]; exact a6.1, a6.2⟩
        rw [t50_ok hLs tops (by omega), t50_ok es2.1 a6 (by omega), tbd, tbd, ← hj1]
        -- both set the height anew
        have ed2 : f_X10_decide 811 (nI k) (nI 1) (jsI (stg f 1 C2) 62 811 (nI h)) = f_X10_decide 811 (nI k) (nI 1) (stg f 1 C2) := by
          have e52 : jI (jsI (stg f 1 C2) 62 811 (nI h)) 52 (818 + 2 * h) = jI (stg f 1 C2) 52 (818 + 2 * h) := hFh.i (by omega)
          have e819 : jAL (jsI (stg f 1 C2) 62 811 (nI h)) (818 + 2 * h + 1) = jAL (stg f 1 C2) (818 + 2 * h + 1) := rfl
          rw [dec1_ok hLh (by simp only [m_I_sI, m_L_sI, m_R_sI, m_AI_sI, m_AL_sI, m_AD_sI, m_AR_sI, m_n_sI, m_I_sL, m_L_sL, m_R_sL, m_AI_sL, m_AL_sL, m_AD_sL, m_AR_sL, m_n_sL, m_I_sR, m_L_sR, m_R_sR, m_AI_sR, m_AL_sR, m_AD_sR, m_AR_sR, m_n_sR, m_I_rI, m_L_rI, m_R_rI, m_AI_rI, m_AL_rI, m_AD_rI, m_AR_rI, m_n_rI, m_I_rL, m_L_rL, m_R_rL, m_AI_rL, m_AL_rL, m_AD_rL, m_AR_rL, m_n_rL, m_I_rD, m_L_rD, m_R_rD, m_AI_rD, m_AL_rD, m_AD_rD, m_AR_rD, m_n_rD, m_I_rR, m_L_rR, m_R_rR, m_AI_rR, m_AL_rR, m_AD_rR, m_AR_rR, m_n_rR, true_and, and_true, and_false, false_and, and_self, if_true, if_false, ite_self, Nat.reduceEqDiff, reduceIte, obt, jlt, jbt, jbd_ite, bind_ite]; exact e60) a6.2.1 e814 h590, jsI2, e52, e819, if_pos cs, ed]
        exact ed2
      have hPs := hP2.shrink hts
      have hA3 : ∀ q, A q → rs ≤ q ∧ q < lo ∧ jAL (jsI C2 62 811 (nI h)) 816 q = jAL R1 2425 (301 * t + q) := hA2
      have fin : ∀ (jj i : Nat) (x : Int32), jj < 3 → x = nI jj → inn (3 * k + jj) = nI i → tOK ki co inn ru nr rs d A lo hi i → i < hi → f_X10_decide 811 (nI k) (nI 1) (stg f 1 C2) = f_X10_enterInner 811 (nI k) x (jsI (stg f 1 C2) 62 811 (nI h)) →
          ∃ x Rb, g_V D' 1 2398 (nI (301 * t + i)) 0 R1 = some (x, Rb) ∧ ∃ j' C', it F j' C0 = some C' ∧ RES F t nr ru n f h rs lo hi r C0 R0 w0 p0 j' C' x Rb := by
        intro jj i x hjj hx hi tk l hd
        have ht1 : f_X10_turn_50 811 (nI k) (ki k) (nI 1) (jsI C2 62 811 (nI h)) = some (psh f i (h + 0) r (jrI (jsI C2 62 811 (nI h)) 813 (upd (jAI (jsI C2 62 811 (nI h)) 813) (f - 1) (nI (1 + 1))))) := by
          rw [hts, t50_ok es2.1 a6 (by omega), tbd, hd, hj1]
          exact hPs.into hjj hi (by omega) (by omega) x hx
        obtain ⟨x1, R2, g1, q⟩ := hPs.inner IH hD' ht1 tk (Nat.le_refl _) (Nat.le_refl _) hhi hrs hA3 (by omega)
        rcases q with ⟨j3, C3, w3, p3, sc3, sl1, e1, hP3, hw3, hcn3⟩ | ⟨e1, j3, C3, hPF⟩
        · subst e1
          refine ⟨_, R2, g1, ?_⟩
          have hl : f_X10_turn_50 811 (nI k) (ki k) (nI (1 + 1)) C3 = f_X10_leave 811 (stg f (1 + 1) C3) := by
            rw [hP3.ct.2.2.2.2.2.2.2.1, tbd]
            obtain ⟨g1, g2, g3, g4, g5⟩ := hP3.dq
            exact dec2_ok g1 g2 g3 g4 g5
          have := hP3.leaves hl (by omega)
          simp only [if_true] at this
          exact this
        · subst e1
          exact ⟨-1, R2, g1, hPF.res hk (by omega) (by omega) (fun z => absurd (hkd.symm.trans z) (by decide)) (fun z => absurd z h678.2.1)⟩
      by_cases cz : jAL (stg f 1 C2) (818 + 2 * h + 1) 0 = 0
      · rw [if_pos cz] at ed ⊢
        rw [z2' (by omega) i2 (by omega) j2]
        exact fin 2 i2 2 (by omega) rfl j2 tk2 l2 ed
      · rw [if_neg cz] at ed ⊢
        rw [z1' (by omega) i1 (by omega) j1]
        exact fin 1 i1 1 (by omega) rfl j1 tk1 l1 ed
    · rw [if_neg cs] at ed ⊢
      obtain ⟨Rb, b1, b2⟩ := fail_done (n := n) (C := stg f 1 C2) (a := 818 + 2 * h) (fl := 2) y5 (by decide)
      rw [b1, jbt]
      have hF : isF F := es.2.2.1
      have b815 : jAI (stg f 1 C2) 815 (f - 1) = nI r := by unfold stg; simp only [m_I_sI, m_L_sI, m_R_sI, m_AI_sI, m_AL_sI, m_AD_sI, m_AR_sI, m_n_sI, m_I_sL, m_L_sL, m_R_sL, m_AI_sL, m_AL_sL, m_AD_sL, m_AR_sL, m_n_sL, m_I_sR, m_L_sR, m_R_sR, m_AI_sR, m_AL_sR, m_AD_sR, m_AR_sR, m_n_sR, m_I_rI, m_L_rI, m_R_rI, m_AI_rI, m_AL_rI, m_AD_rI, m_AR_rI, m_n_rI, m_I_rL, m_L_rL, m_R_rL, m_AI_rL, m_AL_rL, m_AD_rL, m_AR_rL, m_n_rL, m_I_rD, m_L_rD, m_R_rD, m_AI_rD, m_AL_rD, m_AD_rD, m_AR_rD, m_n_rD, m_I_rR, m_L_rR, m_R_rR, m_AI_rR, m_AL_rR, m_AD_rR, m_AR_rR, m_n_rR]; rw [if_neg (by omega)]; exact a6.2.2.2.2.2
      have b64 : jR (stg f 1 C2) 64 811 = some F := by unfold stg; simp only [m_I_sI, m_L_sI, m_R_sI, m_AI_sI, m_AL_sI, m_AD_sI, m_AR_sI, m_n_sI, m_I_sL, m_L_sL, m_R_sL, m_AI_sL, m_AL_sL, m_AD_sL, m_AR_sL, m_n_sL, m_I_sR, m_L_sR, m_R_sR, m_AI_sR, m_AL_sR, m_AD_sR, m_AR_sR, m_n_sR, m_I_rI, m_L_rI, m_R_rI, m_AI_rI, m_AL_rI, m_AD_rI, m_AR_rI, m_n_rI, m_I_rL, m_L_rL, m_R_rL, m_AI_rL, m_AL_rL, m_AD_rL, m_AR_rL, m_n_rL, m_I_rD, m_L_rD, m_R_rD, m_AI_rD, m_AL_rD, m_AD_rD, m_AR_rD, m_n_rD, m_I_rR, m_L_rR, m_R_rR, m_AI_rR, m_AL_rR, m_AD_rR, m_AR_rR, m_n_rR]; exact es2.2.2.2.2.2.2.2.1
      refine ⟨-1, Rb, rfl, hP2.opr stg_fr (by unfold stg; simp only [m_I_sI, m_L_sI, m_R_sI, m_AI_sI, m_AL_sI, m_AD_sI, m_AR_sI, m_n_sI, m_I_sL, m_L_sL, m_R_sL, m_AI_sL, m_AL_sL, m_AD_sL, m_AR_sL, m_n_sL, m_I_sR, m_L_sR, m_R_sR, m_AI_sR, m_AL_sR, m_AD_sR, m_AR_sR, m_n_sR, m_I_rI, m_L_rI, m_R_rI, m_AI_rI, m_AL_rI, m_AD_rI, m_AR_rI, m_n_rI, m_I_rL, m_L_rL, m_R_rL, m_AI_rL, m_AL_rL, m_AD_rL, m_AR_rL, m_n_rL, m_I_rD, m_L_rD, m_R_rD, m_AI_rD, m_AL_rD, m_AD_rD, m_AR_rD, m_n_rD, m_I_rR, m_L_rR, m_R_rR, m_AI_rR, m_AL_rR, m_AD_rR, m_AR_rR, m_n_rR, true_and, and_true, and_false, false_and, and_self, if_true, if_false, ite_self, Nat.reduceEqDiff, reduceIte, obt, jlt, jbt, jbd_ite, bind_ite]) b2 (fun z => absurd z (by decide)) (fun _ => ?_) (by omega) (fun z => absurd (hkd.symm.trans z) (by decide)) (fun z => absurd z h678.2.1)⟩
      rw [hP2.ct.2.2.2.2.2.2.2.1, tbd]
      show f_X10_decide 811 (nI k) (nI 1) (stg f 1 C2) = _
      rw [ed, efail_ok y1 hF b64 e60 a6.2.1.1 a6.2.1.2 b815]
  · subst e1
    refine ⟨-1, R1, ?_, hPF.res hk (by omega) (by omega) (fun z => absurd (hkd.symm.trans z) (by decide)) (fun z => absurd z h678.2.1)⟩
    unfold f_X12_workIf
    rw [if_pos k_2398, ly_104 es.2.1, obt, if_pos n3, n8, g0, jbt, if_neg (by decide)]

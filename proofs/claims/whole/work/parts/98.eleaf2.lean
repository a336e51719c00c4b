/-! PURE: the evaluator: leaves -/
theorem bnd_some {S : Option jM} {C' : jM} (h : S.bind (fun S => some ((0 : Int32), S)) = some (0, C')) : S = some C' := by
  cases S with
  | none => exact nomatch (show (none : Option (Int32 × jM)) = some (0, C') from h)
  | some x =>
    have h2 : some ((0 : Int32), x) = some (0, C') := h
    injection h2 with h3
    injection h3 with h4 h5
    rw [h5]
theorem stg_fr {f st : Nat} {S : jM} : Fr pA S (stg f st S) := (Fr.refl).rI (by unfold pA; omega)
theorem PR.pushw {F T t np nr : Nat} {ru : Nat → Nat × Nat × Nat} {n : Int} {ki : Nat → Int32} {co : Nat → Int64} {inn : Nat → Int32} {f k h rs lo hi r : Nat} {C0 R0 : jM} {w0 p0 j o st : Nat} {s : Nat → Nat} {C R : jM} {w p sc : Nat}
    (hP : PR F T t np nr ru n ki co inn f k h rs lo hi r C0 R0 w0 p0 j o st 0 s C R w p sc) {b : Int64} (ht : f_X10_turn_50 811 (nI k) (ki k) (nI st) C = f_X10_pushNumber 811 0 b (stg f st C)) (ho : o ≤ 6) (n149 : ki k ≠ 149) (n7 : ki k ≠ 7) :
    ∃ Rb, f_X12_ofWhole 2398 b R = some (nI p, Rb) ∧ ∃ j' C', it F j' C0 = some C' ∧ RES F t nr ru n f h rs lo hi r C0 R0 w0 p0 j' C' (nI p) Rb := by
  have hP' := hP
  obtain ⟨a1, a2, a3, a4, a5, a6, ⟨a7, a8⟩, ⟨b1, b2, b3, b4, b5, b6'⟩, b6, b7⟩ := hP
  have h400 := a3.1.2.2
  have hCa : Fr pA C (jsI (stg f st C) 62 811 (nI (h + 1))) := stg_fr.sI (by unfold pA; omega)
  have hLa : Lay (jsI (stg f st C) 62 811 (nI (h + 1))) := a2.1.fr hCa (fun f a z => by unfold pA at z; omega) (fun a z => by unfold pA at z; have := k_813; rw [show a = 813 by omega]; omega)
  have hL6 : Lay (stg f st C) := a2.1.fr stg_fr (fun f a z => by unfold pA at z; omega) (fun a z => by unfold pA at z; have := k_813; rw [show a = 813 by omega]; omega)
  obtain ⟨Cb, Rb, d1, d2, d3⟩ := whole_done (n := n) hLa a2.2.1 (kf_pile (show h < 600 by omega)) a3.2.2.2.1.1 (by omega) b
  have d1' := bnd_some d1
  have h60 : jI (stg f st C) 60 811 = nI f := by unfold stg; simp only [m_I_sI, m_L_sI, m_R_sI, m_AI_sI, m_AL_sI, m_AD_sI, m_AR_sI, m_n_sI, m_I_sL, m_L_sL, m_R_sL, m_AI_sL, m_AL_sL, m_AD_sL, m_AR_sL, m_n_sL, m_I_sR, m_L_sR, m_R_sR, m_AI_sR, m_AL_sR, m_AD_sR, m_AR_sR, m_n_sR, m_I_rI, m_L_rI, m_R_rI, m_AI_rI, m_AL_rI, m_AD_rI, m_AR_rI, m_n_rI, m_I_rL, m_L_rL, m_R_rL, m_AI_rL, m_AL_rL, m_AD_rL, m_AR_rL, m_n_rL, m_I_rD, m_L_rD, m_R_rD, m_AI_rD, m_AL_rD, m_AD_rD, m_AR_rD, m_n_rD, m_I_rR, m_L_rR, m_R_rR, m_AI_rR, m_AL_rR, m_AD_rR, m_AR_rR, m_n_rR]; exact a6.1
  have h62 : jI (stg f st C) 62 811 = nI h := by unfold stg; simp only [m_I_sI, m_L_sI, m_R_sI, m_AI_sI, m_AL_sI, m_AD_sI, m_AR_sI, m_n_sI, m_I_sL, m_L_sL, m_R_sL, m_AI_sL, m_AL_sL, m_AD_sL, m_AR_sL, m_n_sL, m_I_sR, m_L_sR, m_R_sR, m_AI_sR, m_AL_sR, m_AD_sR, m_AR_sR, m_n_sR, m_I_rI, m_L_rI, m_R_rI, m_AI_rI, m_AL_rI, m_AD_rI, m_AR_rI, m_n_rI, m_I_rL, m_L_rL, m_R_rL, m_AI_rL, m_AL_rL, m_AD_rL, m_AR_rL, m_n_rL, m_I_rD, m_L_rD, m_R_rD, m_AI_rD, m_AL_rD, m_AD_rD, m_AR_rD, m_n_rD, m_I_rR, m_L_rR, m_R_rR, m_AI_rR, m_AL_rR, m_AD_rR, m_AR_rR, m_n_rR]; exact a7
  have h60b : jI Cb 60 811 = nI f := by rw [d3.1.i (by unfold pV; omega)]; simp only [m_I_sI, m_L_sI, m_R_sI, m_AI_sI, m_AL_sI, m_AD_sI, m_AR_sI, m_n_sI, m_I_sL, m_L_sL, m_R_sL, m_AI_sL, m_AL_sL, m_AD_sL, m_AR_sL, m_n_sL, m_I_sR, m_L_sR, m_R_sR, m_AI_sR, m_AL_sR, m_AD_sR, m_AR_sR, m_n_sR, m_I_rI, m_L_rI, m_R_rI, m_AI_rI, m_AL_rI, m_AD_rI, m_AR_rI, m_n_rI, m_I_rL, m_L_rL, m_R_rL, m_AI_rL, m_AL_rL, m_AD_rL, m_AR_rL, m_n_rL, m_I_rD, m_L_rD, m_R_rD, m_AI_rD, m_AL_rD, m_AD_rD, m_AR_rD, m_n_rD, m_I_rR, m_L_rR, m_R_rR, m_AI_rR, m_AL_rR, m_AD_rR, m_AR_rR, m_n_rR, true_and, and_true, and_false, false_and, and_self, if_true, if_false, ite_self, Nat.reduceEqDiff, reduceIte, obt, jlt, jbt, jbd_ite, bind_ite]; exact h60
  have h62b : jI Cb 62 811 = nI (h + 1) := by rw [d3.1.i (by unfold pV; omega)]; simp only [m_I_sI, m_L_sI, m_R_sI, m_AI_sI, m_AL_sI, m_AD_sI, m_AR_sI, m_n_sI, m_I_sL, m_L_sL, m_R_sL, m_AI_sL, m_AL_sL, m_AD_sL, m_AR_sL, m_n_sL, m_I_sR, m_L_sR, m_R_sR, m_AI_sR, m_AL_sR, m_AD_sR, m_AR_sR, m_n_sR, m_I_rI, m_L_rI, m_R_rI, m_AI_rI, m_AL_rI, m_AD_rI, m_AR_rI, m_n_rI, m_I_rL, m_L_rL, m_R_rL, m_AI_rL, m_AL_rL, m_AD_rL, m_AR_rL, m_n_rL, m_I_rD, m_L_rD, m_R_rD, m_AI_rD, m_AL_rD, m_AD_rD, m_AR_rD, m_n_rD, m_I_rR, m_L_rR, m_R_rR, m_AI_rR, m_AL_rR, m_AD_rR, m_AR_rR, m_n_rR, true_and, and_true, and_false, false_and, and_self, if_true, if_false, ite_self, Nat.reduceEqDiff, reduceIte, obt, jlt, jbt, jbd_ite, bind_ite]
  have hpu := push_ok hL6 h60 a6.2.1 h62 (by omega) 0 b d1' h60b
  refine ⟨Rb, d2, hP'.opr hCa ?_ d3 (fun _ => ⟨_, ht.trans hpu, (Fr.refl).sI (by omega), by simp only [m_I_sI, m_L_sI, m_R_sI, m_AI_sI, m_AL_sI, m_AD_sI, m_AR_sI, m_n_sI, m_I_sL, m_L_sL, m_R_sL, m_AI_sL, m_AL_sL, m_AD_sL, m_AR_sL, m_n_sL, m_I_sR, m_L_sR, m_R_sR, m_AI_sR, m_AL_sR, m_AD_sR, m_AR_sR, m_n_sR, m_I_rI, m_L_rI, m_R_rI, m_AI_rI, m_AL_rI, m_AD_rI, m_AR_rI, m_n_rI, m_I_rL, m_L_rL, m_R_rL, m_AI_rL, m_AL_rL, m_AD_rL, m_AR_rL, m_n_rL, m_I_rD, m_L_rD, m_R_rD, m_AI_rD, m_AL_rD, m_AD_rD, m_AR_rD, m_n_rD, m_I_rR, m_L_rR, m_R_rR, m_AI_rR, m_AL_rR, m_AD_rR, m_AR_rR, m_n_rR, true_and, and_true, and_false, false_and, and_self, if_true, if_false, ite_self, Nat.reduceEqDiff, reduceIte, obt, jlt, jbt, jbd_ite, bind_ite], by simp only [m_I_sI, m_L_sI, m_R_sI, m_AI_sI, m_AL_sI, m_AD_sI, m_AR_sI, m_n_sI, m_I_sL, m_L_sL, m_R_sL, m_AI_sL, m_AL_sL, m_AD_sL, m_AR_sL, m_n_sL, m_I_sR, m_L_sR, m_R_sR, m_AI_sR, m_AL_sR, m_AD_sR, m_AR_sR, m_n_sR, m_I_rI, m_L_rI, m_R_rI, m_AI_rI, m_AL_rI, m_AD_rI, m_AR_rI, m_n_rI, m_I_rL, m_L_rL, m_R_rL, m_AI_rL, m_AL_rL, m_AD_rL, m_AR_rL, m_n_rL, m_I_rD, m_L_rD, m_R_rD, m_AI_rD, m_AL_rD, m_AD_rD, m_AR_rD, m_n_rD, m_I_rR, m_L_rR, m_R_rR, m_AI_rR, m_AL_rR, m_AD_rR, m_AR_rR, m_n_rR, true_and, and_true, and_false, false_and, and_self, if_true, if_false, ite_self, Nat.reduceEqDiff, reduceIte, obt, jlt, jbt, jbd_ite, bind_ite]; exact h62b⟩) (fun z => absurd rfl z) ho (fun _ => rfl) (fun _ => rfl)⟩
  unfold stg; simp only [m_I_sI, m_L_sI, m_R_sI, m_AI_sI, m_AL_sI, m_AD_sI, m_AR_sI, m_n_sI, m_I_sL, m_L_sL, m_R_sL, m_AI_sL, m_AL_sL, m_AD_sL, m_AR_sL, m_n_sL, m_I_sR, m_L_sR, m_R_sR, m_AI_sR, m_AL_sR, m_AD_sR, m_AR_sR, m_n_sR, m_I_rI, m_L_rI, m_R_rI, m_AI_rI, m_AL_rI, m_AD_rI, m_AR_rI, m_n_rI, m_I_rL, m_L_rL, m_R_rL, m_AI_rL, m_AL_rL, m_AD_rL, m_AR_rL, m_n_rL, m_I_rD, m_L_rD, m_R_rD, m_AI_rD, m_AL_rD, m_AD_rD, m_AR_rD, m_n_rD, m_I_rR, m_L_rR, m_R_rR, m_AI_rR, m_AL_rR, m_AD_rR, m_AR_rR, m_n_rR, true_and, and_true, and_false, false_and, and_self, if_true, if_false, ite_self, Nat.reduceEqDiff, reduceIte, obt, jlt, jbt, jbd_ite, bind_ite]
theorem PR.pushr {F T t np nr : Nat} {ru : Nat → Nat × Nat × Nat} {n : Int} {ki : Nat → Int32} {co : Nat → Int64} {inn : Nat → Int32} {f k h rs lo hi r : Nat} {C0 R0 : jM} {w0 p0 j o st : Nat} {s : Nat → Nat} {C R : jM} {w p sc : Nat}
    (hP : PR F T t np nr ru n ki co inn f k h rs lo hi r C0 R0 w0 p0 j o st 0 s C R w p sc) {b : Int64} (hb : vcan b) (ht : f_X10_turn_50 811 (nI k) (ki k) (nI st) C = f_X10_pushNumber 811 1 b (stg f st C)) (ho : o ≤ 6) (n149 : ki k ≠ 149) (n7 : ki k ≠ 7) :
    ∃ Rb, f_X12_ofReal 2398 b.toUInt64 R = some (nI p, Rb) ∧ ∃ j' C', it F j' C0 = some C' ∧ RES F t nr ru n f h rs lo hi r C0 R0 w0 p0 j' C' (nI p) Rb := by
  have hP' := hP
  obtain ⟨a1, a2, a3, a4, a5, a6, ⟨a7, a8⟩, ⟨b1, b2, b3, b4, b5, b6'⟩, b6, b7⟩ := hP
  have h400 := a3.1.2.2
  have hCa : Fr pA C (jsI (stg f st C) 62 811 (nI (h + 1))) := stg_fr.sI (by unfold pA; omega)
  have hLa : Lay (jsI (stg f st C) 62 811 (nI (h + 1))) := a2.1.fr hCa (fun f a z => by unfold pA at z; omega) (fun a z => by unfold pA at z; have := k_813; rw [show a = 813 by omega]; omega)
  have hL6 : Lay (stg f st C) := a2.1.fr stg_fr (fun f a z => by unfold pA at z; omega) (fun a z => by unfold pA at z; have := k_813; rw [show a = 813 by omega]; omega)
  obtain ⟨Cb, Rb, d1, d2, d3⟩ := real_done (n := n) hLa a2.2.1 (kf_pile (show h < 600 by omega)) a3.2.2.2.1.1 (by omega) hb
  have d1' := bnd_some d1
  have h60 : jI (stg f st C) 60 811 = nI f := by unfold stg; simp only [m_I_sI, m_L_sI, m_R_sI, m_AI_sI, m_AL_sI, m_AD_sI, m_AR_sI, m_n_sI, m_I_sL, m_L_sL, m_R_sL, m_AI_sL, m_AL_sL, m_AD_sL, m_AR_sL, m_n_sL, m_I_sR, m_L_sR, m_R_sR, m_AI_sR, m_AL_sR, m_AD_sR, m_AR_sR, m_n_sR, m_I_rI, m_L_rI, m_R_rI, m_AI_rI, m_AL_rI, m_AD_rI, m_AR_rI, m_n_rI, m_I_rL, m_L_rL, m_R_rL, m_AI_rL, m_AL_rL, m_AD_rL, m_AR_rL, m_n_rL, m_I_rD, m_L_rD, m_R_rD, m_AI_rD, m_AL_rD, m_AD_rD, m_AR_rD, m_n_rD, m_I_rR, m_L_rR, m_R_rR, m_AI_rR, m_AL_rR, m_AD_rR, m_AR_rR, m_n_rR]; exact a6.1
  have h62 : jI (stg f st C) 62 811 = nI h := by unfold stg; simp only [m_I_sI, m_L_sI, m_R_sI, m_AI_sI, m_AL_sI, m_AD_sI, m_AR_sI, m_n_sI, m_I_sL, m_L_sL, m_R_sL, m_AI_sL, m_AL_sL, m_AD_sL, m_AR_sL, m_n_sL, m_I_sR, m_L_sR, m_R_sR, m_AI_sR, m_AL_sR, m_AD_sR, m_AR_sR, m_n_sR, m_I_rI, m_L_rI, m_R_rI, m_AI_rI, m_AL_rI, m_AD_rI, m_AR_rI, m_n_rI, m_I_rL, m_L_rL, m_R_rL, m_AI_rL, m_AL_rL, m_AD_rL, m_AR_rL, m_n_rL, m_I_rD, m_L_rD, m_R_rD, m_AI_rD, m_AL_rD, m_AD_rD, m_AR_rD, m_n_rD, m_I_rR, m_L_rR, m_R_rR, m_AI_rR, m_AL_rR, m_AD_rR, m_AR_rR, m_n_rR]; exact a7
  have h60b : jI Cb 60 811 = nI f := by rw [d3.1.i (by unfold pV; omega)]; simp only [m_I_sI, m_L_sI, m_R_sI, m_AI_sI, m_AL_sI, m_AD_sI, m_AR_sI, m_n_sI, m_I_sL, m_L_sL, m_R_sL, m_AI_sL, m_AL_sL, m_AD_sL, m_AR_sL, m_n_sL, m_I_sR, m_L_sR, m_R_sR, m_AI_sR, m_AL_sR, m_AD_sR, m_AR_sR, m_n_sR, m_I_rI, m_L_rI, m_R_rI, m_AI_rI, m_AL_rI, m_AD_rI, m_AR_rI, m_n_rI, m_I_rL, m_L_rL, m_R_rL, m_AI_rL, m_AL_rL, m_AD_rL, m_AR_rL, m_n_rL, m_I_rD, m_L_rD, m_R_rD, m_AI_rD, m_AL_rD, m_AD_rD, m_AR_rD, m_n_rD, m_I_rR, m_L_rR, m_R_rR, m_AI_rR, m_AL_rR, m_AD_rR, m_AR_rR, m_n_rR, true_and, and_true, and_false, false_and, and_self, if_true, if_false, ite_self, Nat.reduceEqDiff, reduceIte, obt, jlt, jbt, jbd_ite, bind_ite]; exact h60
  have h62b : jI Cb 62 811 = nI (h + 1) := by rw [d3.1.i (by unfold pV; omega)]; simp only [m_I_sI, m_L_sI, m_R_sI, m_AI_sI, m_AL_sI, m_AD_sI, m_AR_sI, m_n_sI, m_I_sL, m_L_sL, m_R_sL, m_AI_sL, m_AL_sL, m_AD_sL, m_AR_sL, m_n_sL, m_I_sR, m_L_sR, m_R_sR, m_AI_sR, m_AL_sR, m_AD_sR, m_AR_sR, m_n_sR, m_I_rI, m_L_rI, m_R_rI, m_AI_rI, m_AL_rI, m_AD_rI, m_AR_rI, m_n_rI, m_I_rL, m_L_rL, m_R_rL, m_AI_rL, m_AL_rL, m_AD_rL, m_AR_rL, m_n_rL, m_I_rD, m_L_rD, m_R_rD, m_AI_rD, m_AL_rD, m_AD_rD, m_AR_rD, m_n_rD, m_I_rR, m_L_rR, m_R_rR, m_AI_rR, m_AL_rR, m_AD_rR, m_AR_rR, m_n_rR, true_and, and_true, and_false, false_and, and_self, if_true, if_false, ite_self, Nat.reduceEqDiff, reduceIte, obt, jlt, jbt, jbd_ite, bind_ite]
  have hpu := push_ok hL6 h60 a6.2.1 h62 (by omega) 1 b d1' h60b
  refine ⟨Rb, d2, hP'.opr hCa ?_ d3 (fun _ => ⟨_, ht.trans hpu, (Fr.refl).sI (by omega), by simp only [m_I_sI, m_L_sI, m_R_sI, m_AI_sI, m_AL_sI, m_AD_sI, m_AR_sI, m_n_sI, m_I_sL, m_L_sL, m_R_sL, m_AI_sL, m_AL_sL, m_AD_sL, m_AR_sL, m_n_sL, m_I_sR, m_L_sR, m_R_sR, m_AI_sR, m_AL_sR, m_AD_sR, m_AR_sR, m_n_sR, m_I_rI, m_L_rI, m_R_rI, m_AI_rI, m_AL_rI, m_AD_rI, m_AR_rI, m_n_rI, m_I_rL, m_L_rL, m_R_rL, m_AI_rL, m_AL_rL, m_AD_rL, m_AR_rL, m_n_rL, m_I_rD, m_L_rD, m_R_rD, m_AI_rD, m_AL_rD, m_AD_rD, m_AR_rD, m_n_rD, m_I_rR, m_L_rR, m_R_rR, m_AI_rR, m_AL_rR, m_AD_rR, m_AR_rR, m_n_rR, true_and, and_true, and_false, false_and, and_self, if_true, if_false, ite_self, Nat.reduceEqDiff, reduceIte, obt, jlt, jbt, jbd_ite, bind_ite], by simp only [m_I_sI, m_L_sI, m_R_sI, m_AI_sI, m_AL_sI, m_AD_sI, m_AR_sI, m_n_sI, m_I_sL, m_L_sL, m_R_sL, m_AI_sL, m_AL_sL, m_AD_sL, m_AR_sL, m_n_sL, m_I_sR, m_L_sR, m_R_sR, m_AI_sR, m_AL_sR, m_AD_sR, m_AR_sR, m_n_sR, m_I_rI, m_L_rI, m_R_rI, m_AI_rI, m_AL_rI, m_AD_rI, m_AR_rI, m_n_rI, m_I_rL, m_L_rL, m_R_rL, m_AI_rL, m_AL_rL, m_AD_rL, m_AR_rL, m_n_rL, m_I_rD, m_L_rD, m_R_rD, m_AI_rD, m_AL_rD, m_AD_rD, m_AR_rD, m_n_rD, m_I_rR, m_L_rR, m_R_rR, m_AI_rR, m_AL_rR, m_AD_rR, m_AR_rR, m_n_rR, true_and, and_true, and_false, false_and, and_self, if_true, if_false, ite_self, Nat.reduceEqDiff, reduceIte, obt, jlt, jbt, jbd_ite, bind_ite]; exact h62b⟩) (fun z => absurd rfl z) ho (fun _ => rfl) (fun _ => rfl)⟩
  unfold stg; simp only [m_I_sI, m_L_sI, m_R_sI, m_AI_sI, m_AL_sI, m_AD_sI, m_AR_sI, m_n_sI, m_I_sL, m_L_sL, m_R_sL, m_AI_sL, m_AL_sL, m_AD_sL, m_AR_sL, m_n_sL, m_I_sR, m_L_sR, m_R_sR, m_AI_sR, m_AL_sR, m_AD_sR, m_AR_sR, m_n_sR, m_I_rI, m_L_rI, m_R_rI, m_AI_rI, m_AL_rI, m_AD_rI, m_AR_rI, m_n_rI, m_I_rL, m_L_rL, m_R_rL, m_AI_rL, m_AL_rL, m_AD_rL, m_AR_rL, m_n_rL, m_I_rD, m_L_rD, m_R_rD, m_AI_rD, m_AL_rD, m_AD_rD, m_AR_rD, m_n_rD, m_I_rR, m_L_rR, m_R_rR, m_AI_rR, m_AL_rR, m_AD_rR, m_AR_rR, m_n_rR, true_and, and_true, and_false, false_and, and_self, if_true, if_false, ite_self, Nat.reduceEqDiff, reduceIte, obt, jlt, jbt, jbd_ite, bind_ite]
/-- what a part is: its content and its inners -/
theorem PR.ct {F T t np nr : Nat} {ru : Nat → Nat × Nat × Nat} {n : Int} {ki : Nat → Int32} {co : Nat → Int64} {inn : Nat → Int32} {f k h rs lo hi r : Nat} {C0 R0 : jM} {w0 p0 j o st m : Nat} {s : Nat → Nat} {C R : jM} {w p sc : Nat}
    (hP : PR F T t np nr ru n ki co inn f k h rs lo hi r C0 R0 w0 p0 j o st m s C R w p sc) : Lay (stg f st C) ∧ jR (stg f st C) 65 811 = some T ∧ jK T = 6 ∧ jR (stg f st C) 47 T = some (T + 2) ∧ jA (T + 2) 14 (nI k) = true ∧ (nI k).toNatClampNeg = k ∧ jAL (stg f st C) (T + 2) k = co k ∧ f_X10_turn_50 811 (nI k) (ki k) (nI st) C = tb k (ki k) (nI st) (stg f st C) ∧ k < 300 := by
  obtain ⟨a1, a2, a3, a4, a5, a6, ⟨a7, a8⟩, ⟨b1, b2, b3, b4, b5, b6'⟩, b6, b7⟩ := hP
  have h400 := a3.1.2.2
  have hL6 : Lay (stg f st C) := a2.1.fr stg_fr (fun f a z => by unfold pA at z; omega) (fun a z => by unfold pA at z; have := k_813; rw [show a = 813 by omega]; omega)
  have hk : jK T = 6 := a2.2.2.2.1.1
  have kt := kd_text hk
  have hnp := a2.2.2.2.2.2.1
  have eco := a2.ki.2.1
  refine ⟨hL6, by unfold stg; simp only [m_I_sI, m_L_sI, m_R_sI, m_AI_sI, m_AL_sI, m_AD_sI, m_AR_sI, m_n_sI, m_I_sL, m_L_sL, m_R_sL, m_AI_sL, m_AL_sL, m_AD_sL, m_AR_sL, m_n_sL, m_I_sR, m_L_sR, m_R_sR, m_AI_sR, m_AL_sR, m_AD_sR, m_AR_sR, m_n_sR, m_I_rI, m_L_rI, m_R_rI, m_AI_rI, m_AL_rI, m_AD_rI, m_AR_rI, m_n_rI, m_I_rL, m_L_rL, m_R_rL, m_AI_rL, m_AL_rL, m_AD_rL, m_AR_rL, m_n_rL, m_I_rD, m_L_rD, m_R_rD, m_AI_rD, m_AL_rD, m_AD_rD, m_AR_rD, m_n_rD, m_I_rR, m_L_rR, m_R_rR, m_AI_rR, m_AL_rR, m_AD_rR, m_AR_rR, m_n_rR]; exact a2.2.2.2.2.2.2.2.2.1, hk, (hL6.2.2.2.1 T hk).2.1, jA_n kt.2.1.1 (by omega) (by omega), nJ_cl (by omega), by unfold stg; simp only [m_I_sI, m_L_sI, m_R_sI, m_AI_sI, m_AL_sI, m_AD_sI, m_AR_sI, m_n_sI, m_I_sL, m_L_sL, m_R_sL, m_AI_sL, m_AL_sL, m_AD_sL, m_AR_sL, m_n_sL, m_I_sR, m_L_sR, m_R_sR, m_AI_sR, m_AL_sR, m_AD_sR, m_AR_sR, m_n_sR, m_I_rI, m_L_rI, m_R_rI, m_AI_rI, m_AL_rI, m_AD_rI, m_AR_rI, m_n_rI, m_I_rL, m_L_rL, m_R_rL, m_AI_rL, m_AL_rL, m_AD_rL, m_AR_rL, m_n_rL, m_I_rD, m_L_rD, m_R_rD, m_AI_rD, m_AL_rD, m_AD_rD, m_AR_rD, m_n_rD, m_I_rR, m_L_rR, m_R_rR, m_AI_rR, m_AL_rR, m_AD_rR, m_AR_rR, m_n_rR]; rw [eco], t50_ok a2.1 a6 (by omega) _, by omega⟩
theorem leaf_n {F T t np nr : Nat} {ru : Nat → Nat × Nat × Nat} {n : Int} {ki : Nat → Int32} {co : Nat → Int64} {inn : Nat → Int32} {f k h rs lo hi r : Nat} {C0 R0 : jM} {w0 p0 : Nat} {s : Nat → Nat} {C R : jM} {w p sc : Nat}
    (hP : PR F T t np nr ru n ki co inn f k h rs lo hi r C0 R0 w0 p0 0 0 0 0 s C R w p sc) {A : Nat → Prop} (hA : ∀ q, A q → jAL C 816 q = jAL R 2425 (301 * t + q)) (h6 : ki k = 6 → ∃ q : Nat, co k = Int64.ofNat q ∧ A q ∧ q < 300) (hk : ki k = 3 ∨ ki k = 4 ∨ ki k = 6 ∨ ki k = 131) (rc : Nat → Nat → Int32 → Int32 → jM → Option (Int32 × jM)) :
    ∃ x Rb, wnB rc (nI (301 * t + k)) (kmap (ki k)) R = some (x, Rb) ∧ ∃ j' C', it F j' C0 = some C' ∧ RES F t nr ru n f h rs lo hi r C0 R0 w0 p0 j' C' x Rb := by
  obtain ⟨c1, c2, c3, c4, c5, c6, c7, c8, c9⟩ := hP.ct
  have hP' := hP
  obtain ⟨a1, a2, a3, a4, a5, a6, ⟨a7, a8⟩, ⟨b1, b2, b3, b4, b5, b6'⟩, b6, b7⟩ := hP
  have ht33 := a2.2.2.2.2.1
  obtain ⟨n1, n2, n3, n4, n5, n6, n7, n8⟩ := nA ht33 (show k < 301 by omega)
  have hrk := a2.rk k b4
  obtain ⟨e1, e2, e3⟩ := a2.ki
  unfold rK at hrk
  rw [e1, e2] at hrk
  obtain ⟨r1, r2, r3, r4, -⟩ := hrk
  have hid : ∀ o : Option jM, (o.bind fun S1 => some S1) = o := fun o => by cases o <;> rfl
  have hjd : ∀ o : Option (Int32 × jM), jbd o (fun x S => some (x, S)) = o := fun o => by cases o <;> rfl
  rcases hk with hk | hk | hk | hk
  · obtain ⟨Rb, g1, g2⟩ := hP'.pushw (b := co k) (by rw [c8, hk]; unfold tb; rw [if_pos rfl, c2, obt, if_pos c3, c4, obt, if_pos c5, c6, c7, hid]) (by omega) (by rw [hk]; decide) (by rw [hk]; decide)
    refine ⟨nI p, Rb, ?_, g2⟩
    rw [hk]
    unfold wnB
    rw [if_neg (by decide), if_neg (by decide), if_neg (by decide), if_neg (by decide), if_pos (by decide), ly_107 a2.2.1, obt, if_pos n6, n8, ← r2 (.inl hk), hjd, g1]
  · obtain ⟨s1, s2, s3⟩ := r3 hk
    obtain ⟨q, q1, q2, q3⟩ := dec_ok (v := jAL R 2412 (301 * t + k)) (sc := jAI R 2413 (301 * t + k)) ⟨s2, s3⟩
    have eq : q = co k := by rw [s1] at q1; injection q1 with q1; exact q1.symm
    subst eq
    obtain ⟨Rb, g1, g2⟩ := hP'.pushr (b := co k) q3 (by rw [c8, hk]; unfold tb; rw [if_neg (by decide), if_pos rfl, c2, obt, if_pos c3, c4, obt, if_pos c5, c6, c7, hid]) (by omega) (by rw [hk]; decide) (by rw [hk]; decide)
    refine ⟨nI p, Rb, ?_, g2⟩
    rw [hk]
    unfold wnB
    rw [if_neg (by decide), if_neg (by decide), if_neg (by decide), if_neg (by decide), if_neg (by decide), if_pos (by decide), ly_107 a2.2.1, obt, if_pos n6, n8, ly_108 a2.2.1, obt, if_pos n7, q2, obt, hjd, g1]
  · obtain ⟨q, q1, q2, q3⟩ := h6 hk
    have ev := hA q q2
    have qi : (Int64.ofNat q).toInt = q := Int64.toInt_ofNat_of_lt (by omega)
    have e816 : jAL (stg f 0 C) 816 = jAL C 816 := rfl
    have q32 : (Int64.ofNat q).toInt32 = nI q := by rw [← nI_64 (by omega), Int32.toInt32_toInt64]
    have hco : f_X10_counterOf 811 (Int64.ofNat q) (stg f 0 C) = some (jAL C 816 q) := by
      unfold f_X10_counterOf
      rw [if_neg (by rw [Int64.lt_iff_toInt_lt, qi, t_l0]; omega), if_pos k_811, ly_63 c1, obt, if_pos k_816, if_neg (by rw [ln_816, Int64.le_iff_toInt_le, qi, show ((Int32.ofNat 300).toInt64).toInt = 300 from rfl]; omega), obt, q32, if_pos (aF q3).2.2.2.2.1, nJ_cl (by omega), e816]
    obtain ⟨Rb, g1, g2⟩ := hP'.pushw (b := jAL C 816 q) (by rw [c8, hk]; unfold tb; rw [if_neg (by decide), if_neg (by decide), if_pos rfl, c2, obt, if_pos c3, c4, obt, if_pos c5, c6, c7, q1, hco, obt, hid]) (by omega) (by rw [hk]; decide) (by rw [hk]; decide)
    refine ⟨nI p, Rb, ?_, g2⟩
    have r9 : jAI R 2409 (301 * t + k) = nI (301 * t + q) := nI_is (by rw [r4 hk, q1, qi]; omega) (by omega)
    rw [hk]
    unfold wnB
    rw [if_neg (by decide), if_neg (by decide), if_neg (by decide), if_neg (by decide), if_neg (by decide), if_neg (by decide), if_neg (by decide), if_pos (by decide), ly_134 a2.2.1, obt, ly_104 a2.2.1, obt, if_pos n3, n8, r9, if_pos (jA_n k_2425 (by rw [ln_2425]; omega) (by omega)), nJ_cl (by omega), ← ev, hjd, g1]
  · have e67 : jI (stg f 0 C) 67 811 = jI R 120 2398 := by unfold stg; simp only [m_I_sI, m_L_sI, m_R_sI, m_AI_sI, m_AL_sI, m_AD_sI, m_AR_sI, m_n_sI, m_I_sL, m_L_sL, m_R_sL, m_AI_sL, m_AL_sL, m_AD_sL, m_AR_sL, m_n_sL, m_I_sR, m_L_sR, m_R_sR, m_AI_sR, m_AL_sR, m_AD_sR, m_AR_sR, m_n_sR, m_I_rI, m_L_rI, m_R_rI, m_AI_rI, m_AL_rI, m_AD_rI, m_AR_rI, m_n_rI, m_I_rL, m_L_rL, m_R_rL, m_AI_rL, m_AL_rL, m_AD_rL, m_AR_rL, m_n_rL, m_I_rD, m_L_rD, m_R_rD, m_AI_rD, m_AL_rD, m_AD_rD, m_AR_rD, m_n_rD, m_I_rR, m_L_rR, m_R_rR, m_AI_rR, m_AL_rR, m_AD_rR, m_AR_rR, m_n_rR]; exact a2.2.2.2.2.2.2.2.2.2.2.1
    obtain ⟨Rb, g1, g2⟩ := hP'.pushw (b := (jI R 120 2398).toInt64) (by rw [c8, hk]; unfold tb; rw [if_neg (by decide), if_neg (by decide), if_neg (by decide), if_neg (by decide), if_neg (by decide), if_pos rfl, e67, hid]) (by omega) (by rw [hk]; decide) (by rw [hk]; decide)
    refine ⟨nI p, Rb, ?_, g2⟩
    rw [hk]
    unfold wnB
    rw [if_pos (by decide), hjd, g1]

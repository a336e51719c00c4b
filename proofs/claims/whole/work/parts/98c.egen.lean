/-! PURE: the evaluator: operators, [ and functions: their inners, and the act -/
def opl : List Int32 := [5, 9, 10, 60, 61, 43, 45, 42, 47, 37, 91, 128, 129, 130, 133, 136, 137, 138, 139, 140, 141, 143, 144, 150, 151, 152]
theorem opl_ok : ∀ kd ∈ opl, f_X10_arityOf kd = nI (tar kd) ∧ (tar kd = 1 ∨ tar kd = 2 ∨ tar kd = 3) ∧ (kd ≠ 3 ∧ kd ≠ 4 ∧ kd ≠ 6 ∧ kd ≠ 7 ∧ kd ≠ 8 ∧ kd ≠ 131 ∧ kd ≠ 135 ∧ kd ≠ 146 ∧ kd ≠ 149) ∧ (kd ≠ 5 → kmap kd ≠ 4 ∧ kmap kd ≠ 8 ∧ kmap kd ≠ 19 ∧ kmap kd ≠ 22 ∧ kmap kd ≠ 41 ∧ kmap kd ≠ 42 ∧ kmap kd ≠ 47 ∧ kmap kd ≠ 48 ∧ kmap kd ≠ 49 ∧ kmap kd ≠ 50) := by decide +kernel
theorem tb_gen {f k st h : Nat} {kd : Int32} {S6 : jM} (hkd : kd ∈ opl) (hS : Lay S6) (h60 : jI S6 60 811 = nI f) (hf : 0 < f ∧ f ≤ 300) (h814 : jAI S6 814 (f - 1) = nI h) (hst : st < 2147483648) : tb k kd (nI st) S6 = if tar kd ≤ st then f_X10_finish 811 kd (nI h) S6 else f_X10_enterInner 811 (nI k) (nI st) S6 := by
  obtain ⟨h1, h2, ⟨h3, h4, h5, h6, h7, h8, h9, h10, h11⟩, -⟩ := opl_ok kd hkd
  obtain ⟨a1, a2, a3, a4, a5, a6⟩ := aF (show f - 1 < 300 by omega)
  have hid : ∀ o : Option jM, (o.bind fun S1 => some S1) = o := fun o => by cases o <;> rfl
  unfold tb
  rw [if_neg h3, if_neg h4, if_neg h5, if_neg h6, if_neg h7, if_neg h8, if_neg h9, if_neg h10, if_neg h11, h1, ly_58 hS, obt, h60, f_1 hf.1 hf.2, if_pos a3, a6, h814, hid, hid]
  by_cases c : tar kd ≤ st
  · rw [if_pos c, if_pos (by rw [nJ_le (by omega) (by omega)]; exact c)]
  · rw [if_neg c, if_neg (by rw [nJ_le (by omega) (by omega)]; exact c)]
/-- into an inner, by a turn -/
theorem PR.into {F T t np nr : Nat} {ru : Nat → Nat × Nat × Nat} {n : Int} {ki : Nat → Int32} {co : Nat → Int64} {inn : Nat → Int32} {f k h rs lo hi r : Nat} {C0 R0 : jM} {w0 p0 j o st m : Nat} {s : Nat → Nat} {C R : jM} {w p sc : Nat}
    (hP : PR F T t np nr ru n ki co inn f k h rs lo hi r C0 R0 w0 p0 j o st m s C R w p sc) {i jj : Nat} (hj : jj < 3) (hi : inn (3 * k + jj) = nI i) (hin : i < np) (hf : f < 300) (x : Int32) (hx : x = nI jj) : f_X10_enterInner 811 (nI k) x (stg f st C) = some (psh f i (h + m) r (jrI C 813 (upd (jAI C 813) (f - 1) (nI (st + 1))))) := by
  obtain ⟨c1, c2, c3, c4, c5, c6, c7, c8, c9⟩ := hP.ct
  obtain ⟨a1, a2, a3, a4, a5, a6, ⟨a7, a8⟩, ⟨b1, b2, b3, b4, b5, b6'⟩, b6, b7⟩ := hP
  have hnp := a2.2.2.2.2.2.1
  have hT := a2.2.2.2.1.2
  refine ent_in (T := T) (np := np) c1 c2 c3 ?_ hnp b4 hj ?_ hin ?_ a6.2.1.1 hf ?_ ?_ x hx
  · unfold stg; simp only [m_I_sI, m_L_sI, m_R_sI, m_AI_sI, m_AL_sI, m_AD_sI, m_AR_sI, m_n_sI, m_I_sL, m_L_sL, m_R_sL, m_AI_sL, m_AL_sL, m_AD_sL, m_AR_sL, m_n_sL, m_I_sR, m_L_sR, m_R_sR, m_AI_sR, m_AL_sR, m_AD_sR, m_AR_sR, m_n_sR, m_I_rI, m_L_rI, m_R_rI, m_AI_rI, m_AL_rI, m_AD_rI, m_AR_rI, m_n_rI, m_I_rL, m_L_rL, m_R_rL, m_AI_rL, m_AL_rL, m_AD_rL, m_AR_rL, m_n_rL, m_I_rD, m_L_rD, m_R_rD, m_AI_rD, m_AL_rD, m_AD_rD, m_AR_rD, m_n_rD, m_I_rR, m_L_rR, m_R_rR, m_AI_rR, m_AL_rR, m_AD_rR, m_AR_rR, m_n_rR]; exact a2.2.2.2.2.2.2.2.2.2.2.2.2.2.2.2.2.1
  · unfold stg; simp only [m_I_sI, m_L_sI, m_R_sI, m_AI_sI, m_AL_sI, m_AD_sI, m_AR_sI, m_n_sI, m_I_sL, m_L_sL, m_R_sL, m_AI_sL, m_AL_sL, m_AD_sL, m_AR_sL, m_n_sL, m_I_sR, m_L_sR, m_R_sR, m_AI_sR, m_AL_sR, m_AD_sR, m_AR_sR, m_n_sR, m_I_rI, m_L_rI, m_R_rI, m_AI_rI, m_AL_rI, m_AD_rI, m_AR_rI, m_n_rI, m_I_rL, m_L_rL, m_R_rL, m_AI_rL, m_AL_rL, m_AD_rL, m_AR_rL, m_n_rL, m_I_rD, m_L_rD, m_R_rD, m_AI_rD, m_AL_rD, m_AD_rD, m_AR_rD, m_n_rD, m_I_rR, m_L_rR, m_R_rR, m_AI_rR, m_AL_rR, m_AD_rR, m_AR_rR, m_n_rR]; rw [if_neg (by omega), a2.ki.2.2]; exact hi
  · unfold stg; simp only [m_I_sI, m_L_sI, m_R_sI, m_AI_sI, m_AL_sI, m_AD_sI, m_AR_sI, m_n_sI, m_I_sL, m_L_sL, m_R_sL, m_AI_sL, m_AL_sL, m_AD_sL, m_AR_sL, m_n_sL, m_I_sR, m_L_sR, m_R_sR, m_AI_sR, m_AL_sR, m_AD_sR, m_AR_sR, m_n_sR, m_I_rI, m_L_rI, m_R_rI, m_AI_rI, m_AL_rI, m_AD_rI, m_AR_rI, m_n_rI, m_I_rL, m_L_rL, m_R_rL, m_AI_rL, m_AL_rL, m_AD_rL, m_AR_rL, m_n_rL, m_I_rD, m_L_rD, m_R_rD, m_AI_rD, m_AL_rD, m_AD_rD, m_AR_rD, m_n_rD, m_I_rR, m_L_rR, m_R_rR, m_AI_rR, m_AL_rR, m_AD_rR, m_AR_rR, m_n_rR]; exact a6.1
  · unfold stg; simp only [m_I_sI, m_L_sI, m_R_sI, m_AI_sI, m_AL_sI, m_AD_sI, m_AR_sI, m_n_sI, m_I_sL, m_L_sL, m_R_sL, m_AI_sL, m_AL_sL, m_AD_sL, m_AR_sL, m_n_sL, m_I_sR, m_L_sR, m_R_sR, m_AI_sR, m_AL_sR, m_AD_sR, m_AR_sR, m_n_sR, m_I_rI, m_L_rI, m_R_rI, m_AI_rI, m_AL_rI, m_AD_rI, m_AR_rI, m_n_rI, m_I_rL, m_L_rL, m_R_rL, m_AI_rL, m_AL_rL, m_AD_rL, m_AR_rL, m_n_rL, m_I_rD, m_L_rD, m_R_rD, m_AI_rD, m_AL_rD, m_AD_rD, m_AR_rD, m_n_rD, m_I_rR, m_L_rR, m_R_rR, m_AI_rR, m_AL_rR, m_AD_rR, m_AR_rR, m_n_rR]; exact a7
  · unfold stg; simp only [m_I_sI, m_L_sI, m_R_sI, m_AI_sI, m_AL_sI, m_AD_sI, m_AR_sI, m_n_sI, m_I_sL, m_L_sL, m_R_sL, m_AI_sL, m_AL_sL, m_AD_sL, m_AR_sL, m_n_sL, m_I_sR, m_L_sR, m_R_sR, m_AI_sR, m_AL_sR, m_AD_sR, m_AR_sR, m_n_sR, m_I_rI, m_L_rI, m_R_rI, m_AI_rI, m_AL_rI, m_AD_rI, m_AR_rI, m_n_rI, m_I_rL, m_L_rL, m_R_rL, m_AI_rL, m_AL_rL, m_AD_rL, m_AR_rL, m_n_rL, m_I_rD, m_L_rD, m_R_rD, m_AI_rD, m_AL_rD, m_AD_rD, m_AR_rD, m_n_rD, m_I_rR, m_L_rR, m_R_rR, m_AI_rR, m_AL_rR, m_AD_rR, m_AR_rR, m_n_rR]; rw [if_neg (by omega)]; exact a6.2.2.2.2.2
/-- the act, behind its inners -/
theorem PR.fin {F T t np nr : Nat} {ru : Nat → Nat × Nat × Nat} {n : Int} {ki : Nat → Int32} {co : Nat → Int64} {inn : Nat → Int32} {f k h rs lo hi r : Nat} {C0 R0 : jM} {w0 p0 j o st m : Nat} {s : Nat → Nat} {C R : jM} {w p sc : Nat}
    (hP : PR F T t np nr ru n ki co inn f k h rs lo hi r C0 R0 w0 p0 j o st m s C R w p sc) (hkd : ki k ∈ opl) (hst : st = tar (ki k)) {Cb Rb : jM} {fl x : Int32} (hO : OpR n (stg f st C) Cb (818 + 2 * h) R Rb p fl x) (hfin : f_X10_finish 811 (ki k) (nI h) (stg f st C) = f_X10_finish_390 811 (nI h) fl Cb) (ho : o ≤ 6) :
    ∃ j' C', it F j' C0 = some C' ∧ RES F t nr ru n f h rs lo hi r C0 R0 w0 p0 j' C' x Rb := by
  obtain ⟨c1, c2, c3, c4, c5, c6, c7, c8, c9⟩ := hP.ct
  have hP' := hP
  obtain ⟨a1, a2, a3, a4, a5, a6, ⟨a7, a8⟩, ⟨b1, b2, b3, b4, b5, b6'⟩, b6, b7⟩ := hP
  have h400 := a3.1.2.2
  have hF : isF F := a2.2.2.1
  have hFn := hF.n
  obtain ⟨-, -, hno, -⟩ := opl_ok _ hkd
  have e60 : jI (stg f st C) 60 811 = nI f := by unfold stg; simp only [m_I_sI, m_L_sI, m_R_sI, m_AI_sI, m_AL_sI, m_AD_sI, m_AR_sI, m_n_sI, m_I_sL, m_L_sL, m_R_sL, m_AI_sL, m_AL_sL, m_AD_sL, m_AR_sL, m_n_sL, m_I_sR, m_L_sR, m_R_sR, m_AI_sR, m_AL_sR, m_AD_sR, m_AR_sR, m_n_sR, m_I_rI, m_L_rI, m_R_rI, m_AI_rI, m_AL_rI, m_AD_rI, m_AR_rI, m_n_rI, m_I_rL, m_L_rL, m_R_rL, m_AI_rL, m_AL_rL, m_AD_rL, m_AR_rL, m_n_rL, m_I_rD, m_L_rD, m_R_rD, m_AI_rD, m_AL_rD, m_AD_rD, m_AR_rD, m_n_rD, m_I_rR, m_L_rR, m_R_rR, m_AI_rR, m_AL_rR, m_AD_rR, m_AR_rR, m_n_rR]; exact a6.1
  have e814 : jAI (stg f st C) 814 (f - 1) = nI h := by unfold stg; simp only [m_I_sI, m_L_sI, m_R_sI, m_AI_sI, m_AL_sI, m_AD_sI, m_AR_sI, m_n_sI, m_I_sL, m_L_sL, m_R_sL, m_AI_sL, m_AL_sL, m_AD_sL, m_AR_sL, m_n_sL, m_I_sR, m_L_sR, m_R_sR, m_AI_sR, m_AL_sR, m_AD_sR, m_AR_sR, m_n_sR, m_I_rI, m_L_rI, m_R_rI, m_AI_rI, m_AL_rI, m_AD_rI, m_AR_rI, m_n_rI, m_I_rL, m_L_rL, m_R_rL, m_AI_rL, m_AL_rL, m_AD_rL, m_AR_rL, m_n_rL, m_I_rD, m_L_rD, m_R_rD, m_AI_rD, m_AL_rD, m_AD_rD, m_AR_rD, m_n_rD, m_I_rR, m_L_rR, m_R_rR, m_AI_rR, m_AL_rR, m_AD_rR, m_AR_rR, m_n_rR]; rw [if_neg (by omega)]; exact a6.2.2.2.2.1
  have ht : f_X10_turn_50 811 (nI k) (ki k) (nI st) C = f_X10_finish_390 811 (nI h) fl Cb := by
    rw [c8, tb_gen hkd c1 e60 a6.2.1 e814 (by omega), if_pos (by omega), hfin]
  have hLb : Lay Cb := c1.fr hO.1 (fun f a z => by unfold pV at z; omega) (fun a z => by
    unfold pV at z
    have hv := kd_val (kf_pile (show h < 600 by omega))
    rw [show a = 818 + 2 * h + 1 by omega]; omega)
  have b60 : jI Cb 60 811 = nI f := by rw [hO.1.i (by unfold pV; omega)]; exact e60
  have b815 : jAI Cb 815 (f - 1) = nI r := by rw [hO.1.ai (by unfold pV; omega)]; unfold stg; simp only [m_I_sI, m_L_sI, m_R_sI, m_AI_sI, m_AL_sI, m_AD_sI, m_AR_sI, m_n_sI, m_I_sL, m_L_sL, m_R_sL, m_AI_sL, m_AL_sL, m_AD_sL, m_AR_sL, m_n_sL, m_I_sR, m_L_sR, m_R_sR, m_AI_sR, m_AL_sR, m_AD_sR, m_AR_sR, m_n_sR, m_I_rI, m_L_rI, m_R_rI, m_AI_rI, m_AL_rI, m_AD_rI, m_AR_rI, m_n_rI, m_I_rL, m_L_rL, m_R_rL, m_AI_rL, m_AL_rL, m_AD_rL, m_AR_rL, m_n_rL, m_I_rD, m_L_rD, m_R_rD, m_AI_rD, m_AL_rD, m_AD_rD, m_AR_rD, m_n_rD, m_I_rR, m_L_rR, m_R_rR, m_AI_rR, m_AL_rR, m_AD_rR, m_AR_rR, m_n_rR]; rw [if_neg (by omega)]; exact a6.2.2.2.2.2
  have b64 : jR Cb 64 811 = some F := by rw [hO.1.r (by unfold pV; omega)]; unfold stg; simp only [m_I_sI, m_L_sI, m_R_sI, m_AI_sI, m_AL_sI, m_AD_sI, m_AR_sI, m_n_sI, m_I_sL, m_L_sL, m_R_sL, m_AI_sL, m_AL_sL, m_AD_sL, m_AR_sL, m_n_sL, m_I_sR, m_L_sR, m_R_sR, m_AI_sR, m_AL_sR, m_AD_sR, m_AR_sR, m_n_sR, m_I_rI, m_L_rI, m_R_rI, m_AI_rI, m_AL_rI, m_AD_rI, m_AR_rI, m_n_rI, m_I_rL, m_L_rL, m_R_rL, m_AI_rL, m_AL_rL, m_AD_rL, m_AR_rL, m_n_rL, m_I_rD, m_L_rD, m_R_rD, m_AI_rD, m_AL_rD, m_AD_rD, m_AR_rD, m_n_rD, m_I_rR, m_L_rR, m_R_rR, m_AI_rR, m_AL_rR, m_AD_rR, m_AR_rR, m_n_rR]; exact a2.2.2.2.2.2.2.2.1
  refine hP'.opr stg_fr (by unfold stg; simp only [m_I_sI, m_L_sI, m_R_sI, m_AI_sI, m_AL_sI, m_AD_sI, m_AR_sI, m_n_sI, m_I_sL, m_L_sL, m_R_sL, m_AI_sL, m_AL_sL, m_AD_sL, m_AR_sL, m_n_sL, m_I_sR, m_L_sR, m_R_sR, m_AI_sR, m_AL_sR, m_AD_sR, m_AR_sR, m_n_sR, m_I_rI, m_L_rI, m_R_rI, m_AI_rI, m_AL_rI, m_AD_rI, m_AR_rI, m_n_rI, m_I_rL, m_L_rL, m_R_rL, m_AI_rL, m_AL_rL, m_AD_rL, m_AR_rL, m_n_rL, m_I_rD, m_L_rD, m_R_rD, m_AI_rD, m_AL_rD, m_AD_rD, m_AR_rD, m_n_rD, m_I_rR, m_L_rR, m_R_rR, m_AI_rR, m_AL_rR, m_AD_rR, m_AR_rR, m_n_rR, true_and, and_true, and_false, false_and, and_self, if_true, if_false, ite_self, Nat.reduceEqDiff, reduceIte, obt, jlt, jbt, jbd_ite, bind_ite]) hO (fun z => ?_) (fun z => ?_) ho (fun z => absurd z hno.2.2.2.2.2.2.2.2) (fun z => absurd z hno.2.2.2.1)
  · have hFr : Fr (fun t f a => t = 0 ∧ (f = 60 ∨ f = 62) ∧ a = 811) Cb (jsI (jsI Cb 62 811 (nI (h + 1))) 60 811 (nI (f - 1))) := ((Fr.refl).sI (by omega)).sI (by omega)
    refine ⟨_, ?_, hFr, by simp only [m_I_sI, m_L_sI, m_R_sI, m_AI_sI, m_AL_sI, m_AD_sI, m_AR_sI, m_n_sI, m_I_sL, m_L_sL, m_R_sL, m_AI_sL, m_AL_sL, m_AD_sL, m_AR_sL, m_n_sL, m_I_sR, m_L_sR, m_R_sR, m_AI_sR, m_AL_sR, m_AD_sR, m_AR_sR, m_n_sR, m_I_rI, m_L_rI, m_R_rI, m_AI_rI, m_AL_rI, m_AD_rI, m_AR_rI, m_n_rI, m_I_rL, m_L_rL, m_R_rL, m_AI_rL, m_AL_rL, m_AD_rL, m_AR_rL, m_n_rL, m_I_rD, m_L_rD, m_R_rD, m_AI_rD, m_AL_rD, m_AD_rD, m_AR_rD, m_n_rD, m_I_rR, m_L_rR, m_R_rR, m_AI_rR, m_AL_rR, m_AD_rR, m_AR_rR, m_n_rR, true_and, and_true, and_false, false_and, and_self, if_true, if_false, ite_self, Nat.reduceEqDiff, reduceIte, obt, jlt, jbt, jbd_ite, bind_ite], by simp only [m_I_sI, m_L_sI, m_R_sI, m_AI_sI, m_AL_sI, m_AD_sI, m_AR_sI, m_n_sI, m_I_sL, m_L_sL, m_R_sL, m_AI_sL, m_AL_sL, m_AD_sL, m_AR_sL, m_n_sL, m_I_sR, m_L_sR, m_R_sR, m_AI_sR, m_AL_sR, m_AD_sR, m_AR_sR, m_n_sR, m_I_rI, m_L_rI, m_R_rI, m_AI_rI, m_AL_rI, m_AD_rI, m_AR_rI, m_n_rI, m_I_rL, m_L_rL, m_R_rL, m_AI_rL, m_AL_rL, m_AD_rL, m_AR_rL, m_n_rL, m_I_rD, m_L_rD, m_R_rD, m_AI_rD, m_AL_rD, m_AD_rD, m_AR_rD, m_n_rD, m_I_rR, m_L_rR, m_R_rR, m_AI_rR, m_AL_rR, m_AD_rR, m_AR_rR, m_n_rR, true_and, and_true, and_false, false_and, and_self, if_true, if_false, ite_self, Nat.reduceEqDiff, reduceIte, obt, jlt, jbt, jbd_ite, bind_ite]⟩
    rw [ht]
    unfold f_X10_finish_390
    rw [if_pos z, if_pos k_811, jlt, nJ_1 (by omega), leave_ok (f := f) (by simp only [m_I_sI, m_L_sI, m_R_sI, m_AI_sI, m_AL_sI, m_AD_sI, m_AR_sI, m_n_sI, m_I_sL, m_L_sL, m_R_sL, m_AI_sL, m_AL_sL, m_AD_sL, m_AR_sL, m_n_sL, m_I_sR, m_L_sR, m_R_sR, m_AI_sR, m_AL_sR, m_AD_sR, m_AR_sR, m_n_sR, m_I_rI, m_L_rI, m_R_rI, m_AI_rI, m_AL_rI, m_AD_rI, m_AR_rI, m_n_rI, m_I_rL, m_L_rL, m_R_rL, m_AI_rL, m_AL_rL, m_AD_rL, m_AR_rL, m_n_rL, m_I_rD, m_L_rD, m_R_rD, m_AI_rD, m_AL_rD, m_AD_rD, m_AR_rD, m_n_rD, m_I_rR, m_L_rR, m_R_rR, m_AI_rR, m_AL_rR, m_AD_rR, m_AR_rR, m_n_rR, true_and, and_true, and_false, false_and, and_self, if_true, if_false, ite_self, Nat.reduceEqDiff, reduceIte, obt, jlt, jbt, jbd_ite, bind_ite]; exact b60) a6.2.1.1 a6.2.1.2, obt]
  · rw [ht]
    unfold f_X10_finish_390
    rw [if_neg z, if_pos k_811, efail_ok hLb hF b64 b60 a6.2.1.1 a6.2.1.2 b815, obt]
/-- the reference's node of one, of two, of three -/
theorem wm1 {rc : Nat → Nat → Int32 → Int32 → jM → Option (Int32 × jM)} {a v2 x : Int32} {z : Nat} {R R1 : jM} (hR : Lay R) (hR1 : Lay R1) (ha : a = nI z) (hz : z < 9933) (h1 : rc 1 2398 (jAI R 2409 z) 0 R = some (x, R1)) (h2 : (jAI R1 2410 z).toInt = -1) (h3 : (jAI R1 2411 z).toInt = -1) : f_X12_workMore rc 2398 a v2 R = if x < 0 then some (-1, R1) else f_X12_workMore_106 rc 2398 v2 x (-1) (-1) R1 := by
  subst ha
  have A : ∀ y, y = 2409 ∨ y = 2410 ∨ y = 2411 → jA y 13 (nI z) = true := fun y hy => by
    rcases hy with e | e | e
    · rw [e]; exact jA_n k_2409 (by rw [ln_2409]; omega) (by omega)
    · rw [e]; exact jA_n k_2410 (by rw [ln_2410]; omega) (by omega)
    · rw [e]; exact jA_n k_2411 (by rw [ln_2411]; omega) (by omega)
  have c : (nI z).toNatClampNeg = z := nJ_cl (by omega)
  have l2 : jAI R1 2410 z < 0 := by rw [i_lt, h2, t_0]; omega
  have l3 : jAI R1 2411 z < 0 := by rw [i_lt, h3, t_0]; omega
  have e90 : f_X12_workMore_90 rc 2398 (nI z) v2 x (-1) (-1) R1 = f_X12_workMore_106 rc 2398 v2 x (-1) (-1) R1 := by
    unfold f_X12_workMore_90
    rw [if_pos k_2398, ly_106 hR1, obt, if_pos (A _ (.inr (.inr rfl))), c, if_pos l3]
  have e72 : f_X12_workMore_72 rc 2398 (nI z) v2 x (-1) (-1) R1 = if x < 0 then some (-1, R1) else f_X12_workMore_106 rc 2398 v2 x (-1) (-1) R1 := by
    unfold f_X12_workMore_72
    rw [if_pos k_2398, ly_105 hR1, obt, if_pos (A _ (.inr (.inl rfl))), c, if_pos l2, e90]
  have e42 : f_X12_workMore_42 rc 2398 (nI z) v2 x (-1) (-1) R1 = if x < 0 then some (-1, R1) else f_X12_workMore_106 rc 2398 v2 x (-1) (-1) R1 := by
    unfold f_X12_workMore_42
    rw [if_pos (show (-1 : Int32) < 0 by decide), e72, ite_self]
  unfold f_X12_workMore
  rw [if_pos k_2398, ly_104 hR, obt, if_pos (A _ (.inl rfl)), c, h1, jbt, e42, ly_105 hR1, obt, if_pos (A _ (.inr (.inl rfl))), if_pos l2, ite_self]
theorem wm2 {rc : Nat → Nat → Int32 → Int32 → jM → Option (Int32 × jM)} {a v2 : Int32} {z s0 : Nat} {x : Int32} {R R1 R2 : jM} (hR : Lay R) (hR1 : Lay R1) (hR2 : Lay R2) (ha : a = nI z) (hz : z < 9933) (h1 : rc 1 2398 (jAI R 2409 z) 0 R = some (nI s0, R1)) (hs : s0 < 1500) (h2 : 0 ≤ (jAI R1 2410 z).toInt) (h1' : rc 1 2398 (jAI R1 2410 z) 0 R1 = some (x, R2)) (h2' : 0 ≤ (jAI R2 2410 z).toInt) (h3 : (jAI R2 2411 z).toInt = -1) : f_X12_workMore rc 2398 a v2 R = if x < 0 then some (-1, R2) else f_X12_workMore_106 rc 2398 v2 (nI s0) x (-1) R2 := by
  subst ha
  have A : ∀ y, y = 2409 ∨ y = 2410 ∨ y = 2411 → jA y 13 (nI z) = true := fun y hy => by
    rcases hy with e | e | e
    · rw [e]; exact jA_n k_2409 (by rw [ln_2409]; omega) (by omega)
    · rw [e]; exact jA_n k_2410 (by rw [ln_2410]; omega) (by omega)
    · rw [e]; exact jA_n k_2411 (by rw [ln_2411]; omega) (by omega)
  have c : (nI z).toNatClampNeg = z := nJ_cl (by omega)
  have l2 : ¬ jAI R1 2410 z < 0 := by rw [i_lt, t_0]; omega
  have l2' : ¬ jAI R2 2410 z < 0 := by rw [i_lt, t_0]; omega
  have l3 : jAI R2 2411 z < 0 := by rw [i_lt, h3, t_0]; omega
  have n0 : ¬ nI s0 < 0 := nI_neg (by omega)
  have e90 : f_X12_workMore_90 rc 2398 (nI z) v2 (nI s0) x (-1) R2 = f_X12_workMore_106 rc 2398 v2 (nI s0) x (-1) R2 := by
    unfold f_X12_workMore_90
    rw [if_pos k_2398, ly_106 hR2, obt, if_pos (A _ (.inr (.inr rfl))), c, if_pos l3]
  have e72 : f_X12_workMore_72 rc 2398 (nI z) v2 (nI s0) x (-1) R2 = if x < 0 then some (-1, R2) else f_X12_workMore_106 rc 2398 v2 (nI s0) x (-1) R2 := by
    unfold f_X12_workMore_72
    rw [if_neg n0, if_pos k_2398, ly_105 hR2, obt, if_pos (A _ (.inr (.inl rfl))), c, if_neg l2', e90]
  have e42 : f_X12_workMore_42 rc 2398 (nI z) v2 (nI s0) x (-1) R2 = if x < 0 then some (-1, R2) else f_X12_workMore_106 rc 2398 v2 (nI s0) x (-1) R2 := by
    unfold f_X12_workMore_42
    rw [if_neg n0, e72, if_pos k_2398, ly_106 hR2, obt, if_pos (A _ (.inr (.inr rfl))), c, if_pos l3, ite_self]
  unfold f_X12_workMore
  rw [if_pos k_2398, ly_104 hR, obt, if_pos (A _ (.inl rfl)), c, h1, jbt, if_neg n0, ly_105 hR1, obt, if_pos (A _ (.inr (.inl rfl))), if_neg l2, obt, if_pos (A _ (.inr (.inl rfl))), h1', jbt, e42]
theorem wm2f {rc : Nat → Nat → Int32 → Int32 → jM → Option (Int32 × jM)} {a v2 : Int32} {z : Nat} {R R1 : jM} (hR : Lay R) (ha : a = nI z) (hz : z < 9933) (h1 : rc 1 2398 (jAI R 2409 z) 0 R = some (-1, R1)) : f_X12_workMore rc 2398 a v2 R = some (-1, R1) := by
  subst ha
  have A : jA 2409 13 (nI z) = true := jA_n k_2409 (by rw [ln_2409]; omega) (by omega)
  have c : (nI z).toNatClampNeg = z := nJ_cl (by omega)
  unfold f_X12_workMore f_X12_workMore_42 f_X12_workMore_72
  rw [if_pos k_2398, ly_104 hR, obt, if_pos A, c, h1, jbt, if_pos (by decide), if_pos (by decide), if_pos (by decide)]
theorem wm3 {rc : Nat → Nat → Int32 → Int32 → jM → Option (Int32 × jM)} {a v2 : Int32} {z s0 s1 : Nat} {x : Int32} {R R1 R2 R3 : jM} (hR : Lay R) (hR1 : Lay R1) (hR2 : Lay R2) (hR3 : Lay R3) (ha : a = nI z) (hz : z < 9933) (h1 : rc 1 2398 (jAI R 2409 z) 0 R = some (nI s0, R1)) (hs : s0 < 1500) (h2 : 0 ≤ (jAI R1 2410 z).toInt) (h1' : rc 1 2398 (jAI R1 2410 z) 0 R1 = some (nI s1, R2)) (hs1 : s1 < 1500) (h3 : 0 ≤ (jAI R2 2411 z).toInt) (h1'' : rc 1 2398 (jAI R2 2411 z) 0 R2 = some (x, R3)) (h2' : 0 ≤ (jAI R3 2410 z).toInt) (h3' : 0 ≤ (jAI R3 2411 z).toInt) : f_X12_workMore rc 2398 a v2 R = if x < 0 then some (-1, R3) else f_X12_workMore_106 rc 2398 v2 (nI s0) (nI s1) x R3 := by
  subst ha
  have A : ∀ y, y = 2409 ∨ y = 2410 ∨ y = 2411 → jA y 13 (nI z) = true := fun y hy => by
    rcases hy with e | e | e
    · rw [e]; exact jA_n k_2409 (by rw [ln_2409]; omega) (by omega)
    · rw [e]; exact jA_n k_2410 (by rw [ln_2410]; omega) (by omega)
    · rw [e]; exact jA_n k_2411 (by rw [ln_2411]; omega) (by omega)
  have c : (nI z).toNatClampNeg = z := nJ_cl (by omega)
  have l2 : ¬ jAI R1 2410 z < 0 := by rw [i_lt, t_0]; omega
  have l2' : ¬ jAI R3 2410 z < 0 := by rw [i_lt, t_0]; omega
  have l3 : ¬ jAI R2 2411 z < 0 := by rw [i_lt, t_0]; omega
  have l3' : ¬ jAI R3 2411 z < 0 := by rw [i_lt, t_0]; omega
  have n0 : ¬ nI s0 < 0 := nI_neg (by omega)
  have n1 : ¬ nI s1 < 0 := nI_neg (by omega)
  have e90 : f_X12_workMore_90 rc 2398 (nI z) v2 (nI s0) (nI s1) x R3 = if x < 0 then some (-1, R3) else f_X12_workMore_106 rc 2398 v2 (nI s0) (nI s1) x R3 := by
    unfold f_X12_workMore_90
    rw [if_pos k_2398, ly_106 hR3, obt, if_pos (A _ (.inr (.inr rfl))), c, if_neg l3']
    by_cases cx : x < 0
    · rw [if_pos cx, if_neg (by rw [i_le, t_0]; rw [i_lt, t_0] at cx; omega)]
    · rw [if_neg cx, if_pos (by rw [i_le, t_0]; rw [i_lt, t_0] at cx; omega)]
  have e72 : f_X12_workMore_72 rc 2398 (nI z) v2 (nI s0) (nI s1) x R3 = if x < 0 then some (-1, R3) else f_X12_workMore_106 rc 2398 v2 (nI s0) (nI s1) x R3 := by
    unfold f_X12_workMore_72
    rw [if_neg n0, if_pos k_2398, ly_105 hR3, obt, if_pos (A _ (.inr (.inl rfl))), c, if_neg l2', if_neg n1, e90]
  unfold f_X12_workMore
  rw [if_pos k_2398, ly_104 hR, obt, if_pos (A _ (.inl rfl)), c, h1, jbt, if_neg n0, ly_105 hR1, obt, if_pos (A _ (.inr (.inl rfl))), if_neg l2, obt, if_pos (A _ (.inr (.inl rfl))), h1', jbt]
  unfold f_X12_workMore_42
  rw [if_neg n0, if_neg n1, if_pos k_2398, ly_106 hR2, obt, if_pos (A _ (.inr (.inr rfl))), c, if_neg l3, obt, if_pos (A _ (.inr (.inr rfl))), h1'', jbt, e72]
theorem wm3f {rc : Nat → Nat → Int32 → Int32 → jM → Option (Int32 × jM)} {a v2 : Int32} {z s0 : Nat} {R R1 R2 : jM} (hR : Lay R) (hR1 : Lay R1) (hR2 : Lay R2) (ha : a = nI z) (hz : z < 9933) (h1 : rc 1 2398 (jAI R 2409 z) 0 R = some (nI s0, R1)) (hs : s0 < 1500) (h2 : 0 ≤ (jAI R1 2410 z).toInt) (h1' : rc 1 2398 (jAI R1 2410 z) 0 R1 = some (-1, R2)) (h2' : 0 ≤ (jAI R2 2410 z).toInt) : f_X12_workMore rc 2398 a v2 R = some (-1, R2) := by
  subst ha
  have A : ∀ y, y = 2409 ∨ y = 2410 ∨ y = 2411 → jA y 13 (nI z) = true := fun y hy => by
    rcases hy with e | e | e
    · rw [e]; exact jA_n k_2409 (by rw [ln_2409]; omega) (by omega)
    · rw [e]; exact jA_n k_2410 (by rw [ln_2410]; omega) (by omega)
    · rw [e]; exact jA_n k_2411 (by rw [ln_2411]; omega) (by omega)
  have c : (nI z).toNatClampNeg = z := nJ_cl (by omega)
  have l2 : ¬ jAI R1 2410 z < 0 := by rw [i_lt, t_0]; omega
  have l2' : ¬ jAI R2 2410 z < 0 := by rw [i_lt, t_0]; omega
  have n0 : ¬ nI s0 < 0 := nI_neg (by omega)
  unfold f_X12_workMore
  rw [if_pos k_2398, ly_104 hR, obt, if_pos (A _ (.inl rfl)), c, h1, jbt, if_neg n0, ly_105 hR1, obt, if_pos (A _ (.inr (.inl rfl))), if_neg l2, obt, if_pos (A _ (.inr (.inl rfl))), h1', jbt]
  unfold f_X12_workMore_42 f_X12_workMore_72
  rw [if_neg n0, if_pos (by decide), if_neg n0, if_pos k_2398, ly_105 hR2, obt, if_pos (A _ (.inr (.inl rfl))), c, if_neg l2', if_pos (by decide)]

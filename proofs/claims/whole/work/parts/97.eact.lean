/-! PURE: the evaluator: an act ends a node; leaves -/
noncomputable def tb (k : Nat) (kd st : Int32) (S6 : jM) : Option jM := if kd = (3 : Int32) then (jR S6 65 811).bind (fun r7 => if jK r7 = 6 then (jR S6 47 r7).bind (fun r10 => if jA r10 14 (nI k) = true then (f_X10_pushNumber 811 (0 : Int32) (jAL S6 r10 (nI k).toNatClampNeg) S6).bind (fun S13 => some S13) else none) else none) else if kd = (4 : Int32) then (jR S6 65 811).bind (fun r16 => if jK r16 = 6 then (jR S6 47 r16).bind (fun r19 => if jA r19 14 (nI k) = true then (f_X10_pushNumber 811 (1 : Int32) (jAL S6 r19 (nI k).toNatClampNeg) S6).bind (fun S22 => some S22) else none) else none) else if kd = (6 : Int32) then (jR S6 65 811).bind (fun r25 => if jK r25 = 6 then (jR S6 47 r25).bind (fun r28 => if jA r28 14 (nI k) = true then (f_X10_counterOf 811 (jAL S6 r28 (nI k).toNatClampNeg) S6).bind (fun x31 => (f_X10_pushNumber 811 (0 : Int32) x31 S6).bind (fun S33 => some S33)) else none) else none) else if kd = (7 : Int32) then (jR S6 65 811).bind (fun r36 => if jK r36 = 6 then (jR S6 47 r36).bind (fun r39 => if jA r39 14 (nI k) = true then (f_X10_wantRule 811 ((jAL S6 r39 (nI k).toNatClampNeg).toInt32) st S6).bind (fun S42 => some S42) else none) else none) else if kd = (8 : Int32) then (jR S6 65 811).bind (fun r45 => if jK r45 = 6 then (jR S6 47 r45).bind (fun r48 => if jA r48 14 (nI k) = true then (f_X10_askFact 811 (jAL S6 r48 (nI k).toNatClampNeg) S6).bind (fun S51 => some S51) else none) else none) else if kd = (131 : Int32) then (f_X10_pushNumber 811 (0 : Int32) ((jI S6 67 811).toInt64) S6).bind (fun S54 => some S54) else if kd = (135 : Int32) then (f_X10_decide 811 (nI k) st S6).bind (fun S57 => some S57) else if kd = (146 : Int32) then (f_X10_addUp 811 (nI k) st S6).bind (fun S60 => some S60) else if kd = (149 : Int32) then (f_X10_attempt 811 (nI k) st S6).bind (fun S63 => some S63) else if (f_X10_arityOf kd) ≤ st then (jR S6 58 811).bind (fun r67 => if jA r67 13 ((jI S6 60 811) - (1 : Int32)) = true then (f_X10_finish 811 kd (jAI S6 r67 ((jI S6 60 811) - (1 : Int32)).toNatClampNeg) S6).bind (fun S70 => some S70) else none) else (f_X10_enterInner 811 (nI k) st S6).bind (fun S72 => some S72)
def stg (f st : Nat) (S : jM) : jM := jrI S 813 (upd (jAI S 813) (f - 1) (nI (st + 1)))
theorem t50_ok {f k st h r : Nat} {S : jM} (hS : Lay S) (hT : TOP f k st h r S) (hst : st < 2147483646) (kd : Int32) : f_X10_turn_50 811 (nI k) kd (nI st) S = tb k kd (nI st) (stg f st S) := by
  obtain ⟨t1, t2, t3, t4, t5, t6⟩ := hT
  obtain ⟨a1, a2, a3, a4, a5, a6⟩ := aF (show f - 1 < 300 by omega)
  unfold f_X10_turn_50
  rw [if_pos k_811, ly_57 hS, obt, t1, f_1 t2.1 t2.2, if_pos a2, if_pos a2, a6, t4, nJ_1 (by omega), jlt]
  rfl
def pA (t f a : Nat) : Prop := (t = 3 ∧ f = f ∧ a = 813) ∨ (t = 0 ∧ f = 62 ∧ a = 811)
theorem PR.opr {F T t np nr : Nat} {ru : Nat → Nat × Nat × Nat} {n : Int} {ki : Nat → Int32} {co : Nat → Int64} {inn : Nat → Int32} {f k h rs lo hi r : Nat} {C0 R0 : jM} {w0 p0 j o st m : Nat} {s : Nat → Nat} {C R : jM} {w p sc : Nat}
    (hP : PR F T t np nr ru n ki co inn f k h rs lo hi r C0 R0 w0 p0 j o st m s C R w p sc) {Ca Cb Rb : jM} {fl x : Int32} (hCa : Fr pA C Ca) (h813 : jAI Ca 813 = upd (jAI C 813) (f - 1) (nI (st + 1))) (hO : OpR n Ca Cb (818 + 2 * h) R Rb p fl x)
    (hok : fl = 0 → ∃ C2, f_X10_turn_50 811 (nI k) (ki k) (nI st) C = some C2 ∧ Fr (fun t f a => t = 0 ∧ (f = 60 ∨ f = 62) ∧ a = 811) Cb C2 ∧ jI C2 60 811 = nI (f - 1) ∧ jI C2 62 811 = nI (h + 1)) (hfl : fl ≠ 0 → f_X10_turn_50 811 (nI k) (ki k) (nI st) C = some (jsI (jsI Cb 7 F fl) 8 F (nI r))) (ho : o ≤ 6) (n149 : ki k = 149 → fl = 0) (n7 : ki k = 7 → fl = 0) :
    ∃ j' C', it F j' C0 = some C' ∧ RES F t nr ru n f h rs lo hi r C0 R0 w0 p0 j' C' x Rb := by
  have hP' := hP
  obtain ⟨a1, a2, a3, a4, a5, a6, ⟨a7, a8⟩, ⟨b1, b2, b3, b4, b5, b6'⟩, b6, b7⟩ := hP
  obtain ⟨t1, t2, t3, t4, t5, t6⟩ := a6
  have hF : isF F := a2.2.2.1
  have hFn := hF.n
  have h400 := a3.1.2.2
  have p226 := a3.2.2.2.1
  obtain ⟨o1, o2, o3, o4⟩ := hO
  have hhh : h ≤ 400 := by omega
  have hFb : Fr (pE F h) C Cb := (hCa.mono (fun t f a z => by unfold pA at z; unfold pE; omega)).trans (o1.mono (fun t f a z => by unfold pV at z; unfold pE; omega))
  have h813b : jAI Cb 813 = upd (jAI C 813) (f - 1) (nI (st + 1)) := by rw [o1.ai (by unfold pV; omega)]; exact h813
  have h10b : jI Cb 10 F = jI Rb 124 2398 := by
    have e1 : jI Cb 10 F = jI Ca 10 F := o1.i (by unfold pV; omega)
    have e2 : jI Ca 10 F = jI C 10 F := hCa.i (by unfold pA; omega)
    have e3 : jI Rb 124 2398 = jI R 124 2398 := o2.i (by unfold qK; omega)
    rw [e1, e2, e3]; exact a3.2.1.1
  have h122 : jI Rb 122 2398 = nI r := by rw [o2.i (by unfold qK; omega)]; exact a8
  rcases o4 with ⟨q1, sl, p', q2, q3, q4, q5, q6, q7, q8, q9⟩ | ⟨q1, q2, q3, q4, q5, q6⟩
  · obtain ⟨C2, e1, e2, e3, e4⟩ := hok q1
    have hF2 : Fr (pE F h) C C2 := hFb.trans (e2.mono (fun t f a z => by unfold pE; omega))
    have o7 : jI C2 7 F = 0 := by rw [e2.i (by omega), o1.i (by unfold pV; omega), hCa.i (by unfold pA; omega)]; exact a5.1
    have o8 : jI C2 8 F = -1 := by rw [e2.i (by omega), o1.i (by unfold pV; omega), hCa.i (by unfold pA; omega)]; exact a5.2.1
    obtain ⟨K, E⟩ := act_KE (t := t) (nr := nr) (ru := ru) (f := f) (rs := rs) (lo := lo) (hi := hi) hF hhh a3 hF2 (fun i hi => by rw [e2.ai (by omega), h813b, upd_if, if_neg (by omega)]) (o2.mono (fun t f a z => .inl z)) o3 q6 q4 (by omega) (by rw [e2.i (by omega)]; exact h10b)
    exact hP'.ends e1 K E q5 ⟨o7, o8, q8.trans a5.2.2.1, q9.trans a5.2.2.2⟩ e3 e4 h122 (by omega) ⟨sl, ⟨q3.1, by rcases Nat.lt_or_ge sl p with z | z; exact q3.2 z; exact .inr (by omega)⟩, nI_is q2 (by omega), q7.c (e2.sP (fun t f => by omega)) (e2.sP (fun t f => by omega)) sS.refl⟩
  · have e1 := hfl (fun z => by rw [z, t_0] at q1; omega)
    have hFr : Fr (fun t f a => a = F ∧ t = 0 ∧ (f = 7 ∨ f = 8)) Cb (jsI (jsI Cb 7 F fl) 8 F (nI r)) := ((Fr.refl).sI (by omega)).sI (by omega)
    have hF2 : Fr (pE F h) C (jsI (jsI Cb 7 F fl) 8 F (nI r)) := hFb.trans (hFr.mono (fun t f a z => by unfold pE; omega))
    obtain ⟨K, E⟩ := act_KE (t := t) (nr := nr) (ru := ru) (f := f) (rs := rs) (lo := lo) (hi := hi) hF hhh a3 hF2 (fun i hi => by rw [hFr.ai (by omega), h813b, upd_if, if_neg (by omega)]) (o2.mono (fun t f a z => .inl z)) o3 q4 (Nat.le_refl _) (by omega) (by rw [hFr.i (by omega)]; exact h10b)
    subst q3
    refine hP'.endf (c := fl) e1 K E ⟨⟨q1, by omega⟩, by simp only [m_I_sI, m_L_sI, m_R_sI, m_AI_sI, m_AL_sI, m_AD_sI, m_AR_sI, m_n_sI, m_I_sL, m_L_sL, m_R_sL, m_AI_sL, m_AL_sL, m_AD_sL, m_AR_sL, m_n_sL, m_I_sR, m_L_sR, m_R_sR, m_AI_sR, m_AL_sR, m_AD_sR, m_AR_sR, m_n_sR, m_I_rI, m_L_rI, m_R_rI, m_AI_rI, m_AL_rI, m_AD_rI, m_AR_rI, m_n_rI, m_I_rL, m_L_rL, m_R_rL, m_AI_rL, m_AL_rL, m_AD_rL, m_AR_rL, m_n_rL, m_I_rD, m_L_rD, m_R_rD, m_AI_rD, m_AL_rD, m_AD_rD, m_AR_rD, m_n_rD, m_I_rR, m_L_rR, m_R_rR, m_AI_rR, m_AL_rR, m_AD_rR, m_AR_rR, m_n_rR, true_and, and_true, and_false, false_and, and_self, if_true, if_false, ite_self, Nat.reduceEqDiff, reduceIte, obt, jlt, jbt, jbd_ite, bind_ite], q5, ?_⟩ ?_ h122 ho (fun z _ => absurd (n149 z) (fun y => by rw [y, t_0] at q1; omega)) (fun z => absurd (n7 z) (fun y => by rw [y, t_0] at q1; omega))
    · rw [q6, a8]; simp only [m_I_sI, m_L_sI, m_R_sI, m_AI_sI, m_AL_sI, m_AD_sI, m_AR_sI, m_n_sI, m_I_sL, m_L_sL, m_R_sL, m_AI_sL, m_AL_sL, m_AD_sL, m_AR_sL, m_n_sL, m_I_sR, m_L_sR, m_R_sR, m_AI_sR, m_AL_sR, m_AD_sR, m_AR_sR, m_n_sR, m_I_rI, m_L_rI, m_R_rI, m_AI_rI, m_AL_rI, m_AD_rI, m_AR_rI, m_n_rI, m_I_rL, m_L_rL, m_R_rL, m_AI_rL, m_AL_rL, m_AD_rL, m_AR_rL, m_n_rL, m_I_rD, m_L_rD, m_R_rD, m_AI_rD, m_AL_rD, m_AD_rD, m_AR_rD, m_n_rD, m_I_rR, m_L_rR, m_R_rR, m_AI_rR, m_AL_rR, m_AD_rR, m_AR_rR, m_n_rR, true_and, and_true, and_false, false_and, and_self, if_true, if_false, ite_self, Nat.reduceEqDiff, reduceIte, obt, jlt, jbt, jbd_ite, bind_ite]
    · refine ⟨?_, t2, ?_, ?_, ?_, ?_⟩
      · rw [hFr.i (by omega), o1.i (by unfold pV; omega), hCa.i (by unfold pA; omega)]; exact t1
      · rw [hFr.ai (by omega), o1.ai (by unfold pV; omega), hCa.ai (by unfold pA; omega)]; exact t3
      · rw [hFr.ai (by omega), h813b, upd_if, if_pos rfl]
      · rw [hFr.ai (by omega), o1.ai (by unfold pV; omega), hCa.ai (by unfold pA; omega)]; exact t5
      · rw [hFr.ai (by omega), o1.ai (by unfold pV; omega), hCa.ai (by unfold pA; omega)]; exact t6
/-- a number is pushed -/
theorem push_ok {f h : Nat} {S : jM} (hS : Lay S) (h60 : jI S 60 811 = nI f) (hf : 0 < f ∧ f ≤ 300) (h62 : jI S 62 811 = nI h) (hh : h < 600) (so : Int32) (b : Int64) {Cb : jM} (hb : f_X9_setNumber (818 + 2 * h) so b (jsI S 62 811 (nI (h + 1))) = some Cb) (h60b : jI Cb 60 811 = nI f) : f_X10_pushNumber 811 so b S = some (jsI Cb 60 811 (nI (f - 1))) := by
  have a17 : jA 817 19 (nI h) = true := jA_n k_817 (by rw [ln_817]; omega) (by omega)
  unfold f_X10_pushNumber f_X10_pushed f_X10_pushed_31
  rw [if_pos k_811, if_pos k_811, ly_61 hS, obt, h62, if_neg (by rw [show (600 : Int32) = nI 600 from rfl, nJ_le (by omega) (by omega)]; omega), jlt, nJ_1 (by omega), jlt, if_pos a17, nJ_cl (by omega)]
  have hp : jAR (jsI S 62 811 (nI (h + 1))) 817 h = some (818 + 2 * h) := ly_pl hS hh
  rw [hp, obt, jbt, obt, if_pos (kf_pile hh), hb, obt, leave_ok h60b hf.1 hf.2, obt]

/-! PURE: the evaluator: a fact is asked -/
theorem leaf_f {F T t np nr : Nat} {ru : Nat → Nat × Nat × Nat} {n : Int} {ki : Nat → Int32} {co : Nat → Int64} {inn : Nat → Int32} {f k h rs lo hi r : Nat} {C0 R0 : jM} {w0 p0 : Nat} {s : Nat → Nat} {C R : jM} {w p sc : Nat}
    (hP : PR F T t np nr ru n ki co inn f k h rs lo hi r C0 R0 w0 p0 0 0 0 0 s C R w p sc) (hk : ki k = 8) (rc : Nat → Nat → Int32 → Int32 → jM → Option (Int32 × jM)) :
    ∃ x Rb, wnB rc (nI (301 * t + k)) (kmap (ki k)) R = some (x, Rb) ∧ ∃ j' C', it F j' C0 = some C' ∧ RES F t nr ru n f h rs lo hi r C0 R0 w0 p0 j' C' x Rb := by
  obtain ⟨c1, c2, c3, c4, c5, c6, c7, c8, c9⟩ := hP.ct
  have hP' := hP
  obtain ⟨a1, a2, a3, a4, a5, a6, ⟨a7, a8⟩, ⟨b1, b2, b3, b4, b5, b6'⟩, b6, b7⟩ := hP
  have ht33 := a2.2.2.2.2.1
  have hF : isF F := a2.2.2.1
  have hFn := hF.n
  have h400 := a3.1.2.2
  have p226 := a3.2.2.2.1
  obtain ⟨n1, n2, n3, n4, n5, n6, n7, n8⟩ := nA ht33 (show k < 301 by omega)
  have hrk := a2.rk k b4
  obtain ⟨e1, e2, e3⟩ := a2.ki
  unfold rK at hrk
  rw [e1, e2] at hrk
  obtain ⟨r1, r2, -⟩ := hrk
  have hid : ∀ o : Option jM, (o.bind fun S1 => some S1) = o := fun o => by cases o <;> rfl
  have hjd : ∀ o : Option (Int32 × jM), jbd o (fun x S => some (x, S)) = o := fun o => by cases o <;> rfl
  -- asked
  have hF8 : Fr (fun t f a => pA t f a ∨ (t = 0 ∧ f = 10 ∧ a = F)) C (jsI (stg f 0 C) 10 F (jI (stg f 0 C) 10 F + 1)) := (stg_fr.mono (fun _ _ _ z => .inl z)).sI (by omega)
  have hR2 : Fr (fun t f a => t = 0 ∧ f = 124 ∧ a = 2398) R (jsI R 124 2398 (jI R 124 2398 + 1)) := (Fr.refl).sI (by omega)
  have hs2 : ∀ s, sS R (jsI R 124 2398 (jI R 124 2398 + 1)) s := fun s => hR2.sS (fun a h1 h2 => by omega) s
  have es := a2.fr (hF8.mono (fun t f a z => by unfold pA at z; unfold pW; omega)) (hR2.mono (fun t f a z => by unfold qW; omega)) (fun s _ => hs2 s)
  have hk10 : jI (jsI (stg f 0 C) 10 F (jI (stg f 0 C) 10 F + 1)) 10 F = jI (jsI R 124 2398 (jI R 124 2398 + 1)) 124 2398 := by
    have := a3.2.1.1
    simp only [m_I_sI, m_L_sI, m_R_sI, m_AI_sI, m_AL_sI, m_AD_sI, m_AR_sI, m_n_sI, m_I_sL, m_L_sL, m_R_sL, m_AI_sL, m_AL_sL, m_AD_sL, m_AR_sL, m_n_sL, m_I_sR, m_L_sR, m_R_sR, m_AI_sR, m_AL_sR, m_AD_sR, m_AR_sR, m_n_sR, m_I_rI, m_L_rI, m_R_rI, m_AI_rI, m_AL_rI, m_AD_rI, m_AR_rI, m_n_rI, m_I_rL, m_L_rL, m_R_rL, m_AI_rL, m_AL_rL, m_AD_rL, m_AR_rL, m_n_rL, m_I_rD, m_L_rD, m_R_rD, m_AI_rD, m_AL_rD, m_AD_rD, m_AR_rD, m_n_rD, m_I_rR, m_L_rR, m_R_rR, m_AI_rR, m_AL_rR, m_AD_rR, m_AR_rR, m_n_rR, true_and, and_true, and_false, false_and, and_self, if_true, if_false, ite_self, Nat.reduceEqDiff, reduceIte, obt, jlt, jbt, jbd_ite, bind_ite]
    rw [show jI (stg f 0 C) 10 F = jI C 10 F from rfl, this]
  have h813 : ∀ i, i + 1 < f → jAI (jsI (stg f 0 C) 10 F (jI (stg f 0 C) 10 F + 1)) 813 i = jAI C 813 i := fun i hi => by
    unfold stg; simp only [m_I_sI, m_L_sI, m_R_sI, m_AI_sI, m_AL_sI, m_AD_sI, m_AR_sI, m_n_sI, m_I_sL, m_L_sL, m_R_sL, m_AI_sL, m_AL_sL, m_AD_sL, m_AR_sL, m_n_sL, m_I_sR, m_L_sR, m_R_sR, m_AI_sR, m_AL_sR, m_AD_sR, m_AR_sR, m_n_sR, m_I_rI, m_L_rI, m_R_rI, m_AI_rI, m_AL_rI, m_AD_rI, m_AR_rI, m_n_rI, m_I_rL, m_L_rL, m_R_rL, m_AI_rL, m_AL_rL, m_AD_rL, m_AR_rL, m_n_rL, m_I_rD, m_L_rD, m_R_rD, m_AI_rD, m_AL_rD, m_AD_rD, m_AR_rD, m_n_rD, m_I_rR, m_L_rR, m_R_rR, m_AI_rR, m_AL_rR, m_AD_rR, m_AR_rR, m_n_rR, upd_if, true_and, and_true, and_false, false_and, and_self, if_true, if_false, ite_self, Nat.reduceEqDiff, reduceIte, obt, jlt, jbt, jbd_ite, bind_ite]; rw [if_neg (by omega)]
  have h813t : jAI (jsI (stg f 0 C) 10 F (jI (stg f 0 C) 10 F + 1)) 813 (f - 1) = nI (0 + 1) := by
    unfold stg; simp only [m_I_sI, m_L_sI, m_R_sI, m_AI_sI, m_AL_sI, m_AD_sI, m_AR_sI, m_n_sI, m_I_sL, m_L_sL, m_R_sL, m_AI_sL, m_AL_sL, m_AD_sL, m_AR_sL, m_n_sL, m_I_sR, m_L_sR, m_R_sR, m_AI_sR, m_AL_sR, m_AD_sR, m_AR_sR, m_n_sR, m_I_rI, m_L_rI, m_R_rI, m_AI_rI, m_AL_rI, m_AD_rI, m_AR_rI, m_n_rI, m_I_rL, m_L_rL, m_R_rL, m_AI_rL, m_AL_rL, m_AD_rL, m_AR_rL, m_n_rL, m_I_rD, m_L_rD, m_R_rD, m_AI_rD, m_AL_rD, m_AD_rD, m_AR_rD, m_n_rD, m_I_rR, m_L_rR, m_R_rR, m_AI_rR, m_AL_rR, m_AD_rR, m_AR_rR, m_n_rR, upd_if, true_and, and_true, and_false, false_and, and_self, if_true, if_false, ite_self, Nat.reduceEqDiff, reduceIte, obt, jlt, jbt, jbd_ite, bind_ite]
  have ht0 : tb k 8 (nI 0) (stg f 0 C) = f_X10_askFact 811 (co k) (stg f 0 C) := by
    unfold tb
    rw [if_neg (by decide), if_neg (by decide), if_neg (by decide), if_neg (by decide), if_pos rfl, c2, obt, if_pos c3, c4, obt, if_pos c5, c6, c7, hid]
  have h64 : jR (stg f 0 C) 64 811 = some F := by unfold stg; simp only [m_I_sI, m_L_sI, m_R_sI, m_AI_sI, m_AL_sI, m_AD_sI, m_AR_sI, m_n_sI, m_I_sL, m_L_sL, m_R_sL, m_AI_sL, m_AL_sL, m_AD_sL, m_AR_sL, m_n_sL, m_I_sR, m_L_sR, m_R_sR, m_AI_sR, m_AL_sR, m_AD_sR, m_AR_sR, m_n_sR, m_I_rI, m_L_rI, m_R_rI, m_AI_rI, m_AL_rI, m_AD_rI, m_AR_rI, m_n_rI, m_I_rL, m_L_rL, m_R_rL, m_AI_rL, m_AL_rL, m_AD_rL, m_AR_rL, m_n_rL, m_I_rD, m_L_rD, m_R_rD, m_AI_rD, m_AL_rD, m_AD_rD, m_AR_rD, m_n_rD, m_I_rR, m_L_rR, m_R_rR, m_AI_rR, m_AL_rR, m_AD_rR, m_AR_rR, m_n_rR]; exact a2.2.2.2.2.2.2.2.1
  have er0 : wnB rc (nI (301 * t + k)) (kmap (ki k)) R = f_X12_workFact 2398 (co k) R := by
    rw [hk]
    unfold wnB
    rw [if_neg (by decide), if_neg (by decide), if_neg (by decide), if_neg (by decide), if_neg (by decide), if_neg (by decide), if_neg (by decide), if_neg (by decide), if_neg (by decide), if_pos (by decide), ly_107 a2.2.1, obt, if_pos n6, n8, ← r2 (.inr hk), hjd]
  have ea : f_X10_askFact 811 (co k) (stg f 0 C) = (f_X6_latest 1 (jI (jsI (stg f 0 C) 10 F (jI (stg f 0 C) 10 F + 1)) 66 811) (co k) (jI (jsI (stg f 0 C) 10 F (jI (stg f 0 C) 10 F + 1)) 67 811) (jI (jsI (stg f 0 C) 10 F (jI (stg f 0 C) 10 F + 1)) 68 811) (jsI (stg f 0 C) 10 F (jI (stg f 0 C) 10 F + 1))).bind (fun x11 => if x11 < 0 then f_X10_askFact_45 811 (jsI (stg f 0 C) 10 F (jI (stg f 0 C) 10 F + 1)) else if x11 < (200 : Int32) then jbd (f_X10_pushed 811 (jsI (stg f 0 C) 10 F (jI (stg f 0 C) 10 F + 1))) (fun x16 S17 => (x16).bind (fun r19 => (jR S17 55 811).bind (fun r21 => if jK r21 = 4 then (jR S17 35 r21).bind (fun r24 => if jA r24 17 x11 = true then (jAR S17 r24 (x11).toNatClampNeg).bind (fun r27 => if jK r27 = 2 then (jR S17 23 r27).bind (fun r30 => if jK r19 = 7 then (f_X9_setTo r19 r30 S17).bind (fun S32 => (f_X10_leave 811 S32).bind (fun S35 => some S35)) else none) else none) else none) else none))) else f_X10_askFact_45 811 (jsI (stg f 0 C) 10 F (jI (stg f 0 C) 10 F + 1))) := by
    unfold f_X10_askFact
    have l55 : jR (jsI (stg f 0 C) 10 F (jI (stg f 0 C) 10 F + 1)) 55 811 = some 1 := ly_55 es.1
    rw [if_pos k_811, h64, obt, if_pos hF.k, jlt, l55, obt, if_pos k_1]
  have ef : f_X12_workFact 2398 (co k) R = (f_X12_findKnown 2398 (jI (jsI R 124 2398 (jI R 124 2398 + 1)) 119 2398) (co k) (jI (jsI R 124 2398 (jI R 124 2398 + 1)) 120 2398) (jI (jsI R 124 2398 (jI R 124 2398 + 1)) 121 2398) (jsI R 124 2398 (jI R 124 2398 + 1))).bind (fun x3 => if 0 ≤ x3 then some ((1 : Int32) + x3, (jsI R 124 2398 (jI R 124 2398 + 1))) else jbd (f_X12_failing 2398 (1 : Int32) (jsI R 124 2398 (jI R 124 2398 + 1))) (fun x6 S7 => some (x6, S7))) := by
    unfold f_X12_workFact
    rw [if_pos k_2398, jlt]
  generalize hS8 : jsI (stg f 0 C) 10 F (jI (stg f 0 C) 10 F + 1) = S8 at *
  generalize hS2 : jsI R 124 2398 (jI R 124 2398 + 1) = S2 at *
  obtain ⟨x, x1, x2, x3⟩ := latest_ok es.1 es.2.1 es.2.2.2.2.2.2.2.2.2.2.2.2.2.2.2.1 (jI S2 119 2398) (co k) (jI S2 120 2398) (jI S2 121 2398)
  have q66 := es.2.2.2.2.2.2.2.2.2.1
  have q67 := es.2.2.2.2.2.2.2.2.2.2.1
  have q68 := es.2.2.2.2.2.2.2.2.2.2.2.1
  rw [er0, ef, x2, obt]
  rw [q66, q67, q68, x1, obt] at ea
  have i60 : jI S8 60 811 = nI f := by rw [hF8.i (by unfold pA; omega)]; exact a6.1
  have i62 : jI S8 62 811 = nI h := by rw [← hS8]; unfold stg; simp only [m_I_sI, m_L_sI, m_R_sI, m_AI_sI, m_AL_sI, m_AD_sI, m_AR_sI, m_n_sI, m_I_sL, m_L_sL, m_R_sL, m_AI_sL, m_AL_sL, m_AD_sL, m_AR_sL, m_n_sL, m_I_sR, m_L_sR, m_R_sR, m_AI_sR, m_AL_sR, m_AD_sR, m_AR_sR, m_n_sR, m_I_rI, m_L_rI, m_R_rI, m_AI_rI, m_AL_rI, m_AD_rI, m_AR_rI, m_n_rI, m_I_rL, m_L_rL, m_R_rL, m_AI_rL, m_AL_rL, m_AD_rL, m_AR_rL, m_n_rL, m_I_rD, m_L_rD, m_R_rD, m_AI_rD, m_AL_rD, m_AD_rD, m_AR_rD, m_n_rD, m_I_rR, m_L_rR, m_R_rR, m_AI_rR, m_AL_rR, m_AD_rR, m_AR_rR, m_n_rR, true_and, and_true, and_false, false_and, and_self, if_true, if_false, ite_self, Nat.reduceEqDiff, reduceIte, obt, jlt, jbt, jbd_ite, bind_ite]; exact a7
  have i64 : jR S8 64 811 = some F := es.2.2.2.2.2.2.2.1
  have i815 : jAI S8 815 (f - 1) = nI r := by rw [hF8.ai (by unfold pA; omega)]; exact a6.2.2.2.2.2
  have h122 : jI S2 122 2398 = nI r := by rw [hR2.i (by omega)]; exact a8
  have h92 : jI S2 92 2398 = nI p := by rw [hR2.i (by omega)]; exact p226.1
  have hhh : h ≤ 400 := by omega
  rcases x3 with x3 | ⟨i, i1, i2, i3⟩
  · subst x3
    rw [if_pos (by decide)] at ea
    rw [if_neg (by decide)]
    have e45 : f_X10_askFact_45 811 S8 = some (jsI (jsI S8 7 F 1) 8 F (nI r)) := by
      unfold f_X10_askFact_45
      rw [if_pos k_811, efail_ok es.1 hF i64 i60 a6.2.1.1 a6.2.1.2 i815, obt]
    rw [e45] at ea
    unfold f_X12_failing
    rw [if_pos k_2398, jlt, jlt, jbt]
    have hFr : Fr (fun t f a => a = F ∧ t = 0 ∧ (f = 7 ∨ f = 8)) S8 (jsI (jsI S8 7 F 1) 8 F (nI r)) := ((Fr.refl).sI (by omega)).sI (by omega)
    have hFR : Fr (fun t f a => a = 2398 ∧ t = 0 ∧ (f = 126 ∨ f = 127)) S2 (jsI (jsI S2 126 2398 1) 127 2398 (jI (jsI S2 126 2398 1) 122 2398)) := ((Fr.refl).sI (by omega)).sI (by omega)
    have e122 : jI (jsI S2 126 2398 1) 122 2398 = nI r := by simp only [m_I_sI, m_L_sI, m_R_sI, m_AI_sI, m_AL_sI, m_AD_sI, m_AR_sI, m_n_sI, m_I_sL, m_L_sL, m_R_sL, m_AI_sL, m_AL_sL, m_AD_sL, m_AR_sL, m_n_sL, m_I_sR, m_L_sR, m_R_sR, m_AI_sR, m_AL_sR, m_AD_sR, m_AR_sR, m_n_sR, m_I_rI, m_L_rI, m_R_rI, m_AI_rI, m_AL_rI, m_AD_rI, m_AR_rI, m_n_rI, m_I_rL, m_L_rL, m_R_rL, m_AI_rL, m_AL_rL, m_AD_rL, m_AR_rL, m_n_rL, m_I_rD, m_L_rD, m_R_rD, m_AI_rD, m_AL_rD, m_AD_rD, m_AR_rD, m_n_rD, m_I_rR, m_L_rR, m_R_rR, m_AI_rR, m_AL_rR, m_AD_rR, m_AR_rR, m_n_rR, true_and, and_true, and_false, false_and, and_self, if_true, if_false, ite_self, Nat.reduceEqDiff, reduceIte, obt, jlt, jbt, jbd_ite, bind_ite]; exact h122
    obtain ⟨K, E⟩ := act_KE (t := t) (nr := nr) (ru := ru) (f := f) (rs := rs) (lo := lo) (hi := hi) (p2 := p) hF hhh a3 ((hF8.mono (fun t f a z => by unfold pA at z; unfold pE; omega)).trans (hFr.mono (fun t f a z => by unfold pE; omega))) (fun i hi => by rw [hFr.ai (by omega)]; exact h813 i hi) ((hR2.mono (fun t f a z => .inr z)).trans (hFR.mono (fun t f a z => by unfold qE qK; omega))) (fun s _ => (hs2 s).trans (hFR.sS (fun a h1 h2 => by omega) s)) (by rw [hFR.i (by omega)]; exact h92) (Nat.le_refl _) p226.2.2 (by rw [hFr.i (by omega), hFR.i (by omega)]; exact hk10)
    refine ⟨-1, _, rfl, hP'.endf (c := 1) (by rw [c8, hk, ht0]; exact ea) K E ⟨by decide, by simp only [m_I_sI, m_L_sI, m_R_sI, m_AI_sI, m_AL_sI, m_AD_sI, m_AR_sI, m_n_sI, m_I_sL, m_L_sL, m_R_sL, m_AI_sL, m_AL_sL, m_AD_sL, m_AR_sL, m_n_sL, m_I_sR, m_L_sR, m_R_sR, m_AI_sR, m_AL_sR, m_AD_sR, m_AR_sR, m_n_sR, m_I_rI, m_L_rI, m_R_rI, m_AI_rI, m_AL_rI, m_AD_rI, m_AR_rI, m_n_rI, m_I_rL, m_L_rL, m_R_rL, m_AI_rL, m_AL_rL, m_AD_rL, m_AR_rL, m_n_rL, m_I_rD, m_L_rD, m_R_rD, m_AI_rD, m_AL_rD, m_AD_rD, m_AR_rD, m_n_rD, m_I_rR, m_L_rR, m_R_rR, m_AI_rR, m_AL_rR, m_AD_rR, m_AR_rR, m_n_rR, true_and, and_true, and_false, false_and, and_self, if_true, if_false, ite_self, Nat.reduceEqDiff, reduceIte, obt, jlt, jbt, jbd_ite, bind_ite], by simp only [m_I_sI, m_L_sI, m_R_sI, m_AI_sI, m_AL_sI, m_AD_sI, m_AR_sI, m_n_sI, m_I_sL, m_L_sL, m_R_sL, m_AI_sL, m_AL_sL, m_AD_sL, m_AR_sL, m_n_sL, m_I_sR, m_L_sR, m_R_sR, m_AI_sR, m_AL_sR, m_AD_sR, m_AR_sR, m_n_sR, m_I_rI, m_L_rI, m_R_rI, m_AI_rI, m_AL_rI, m_AD_rI, m_AR_rI, m_n_rI, m_I_rL, m_L_rL, m_R_rL, m_AI_rL, m_AL_rL, m_AD_rL, m_AR_rL, m_n_rL, m_I_rD, m_L_rD, m_R_rD, m_AI_rD, m_AL_rD, m_AD_rD, m_AR_rD, m_n_rD, m_I_rR, m_L_rR, m_R_rR, m_AI_rR, m_AL_rR, m_AD_rR, m_AR_rR, m_n_rR, true_and, and_true, and_false, false_and, and_self, if_true, if_false, ite_self, Nat.reduceEqDiff, reduceIte, obt, jlt, jbt, jbd_ite, bind_ite], by rw [e122]; simp only [m_I_sI, m_L_sI, m_R_sI, m_AI_sI, m_AL_sI, m_AD_sI, m_AR_sI, m_n_sI, m_I_sL, m_L_sL, m_R_sL, m_AI_sL, m_AL_sL, m_AD_sL, m_AR_sL, m_n_sL, m_I_sR, m_L_sR, m_R_sR, m_AI_sR, m_AL_sR, m_AD_sR, m_AR_sR, m_n_sR, m_I_rI, m_L_rI, m_R_rI, m_AI_rI, m_AL_rI, m_AD_rI, m_AR_rI, m_n_rI, m_I_rL, m_L_rL, m_R_rL, m_AI_rL, m_AL_rL, m_AD_rL, m_AR_rL, m_n_rL, m_I_rD, m_L_rD, m_R_rD, m_AI_rD, m_AL_rD, m_AD_rD, m_AR_rD, m_n_rD, m_I_rR, m_L_rR, m_R_rR, m_AI_rR, m_AL_rR, m_AD_rR, m_AR_rR, m_n_rR, true_and, and_true, and_false, false_and, and_self, if_true, if_false, ite_self, Nat.reduceEqDiff, reduceIte, obt, jlt, jbt, jbd_ite, bind_ite]⟩ ⟨?_, a6.2.1, ?_, ?_, ?_, ?_⟩ (by rw [hFR.i (by omega)]; exact h122) (by omega) (fun z => absurd (hk.symm.trans z) (by decide)) (fun z => absurd (hk.symm.trans z) (by decide))⟩
    · rw [hFr.i (by omega)]; exact i60
    · rw [hFr.ai (by omega), hF8.ai (by unfold pA; omega)]; exact a6.2.2.1
    · rw [hFr.ai (by omega)]; exact h813t
    · rw [hFr.ai (by omega), hF8.ai (by unfold pA; omega)]; exact a6.2.2.2.2.1
    · rw [hFr.ai (by omega)]; exact i815
  · subst i3
    have hsl : (1 : Int32) + nI i = nI (1 + i) := nJ_add (a := 1) (b := i) (by omega)
    rw [if_neg (nI_neg (by omega)), if_pos (by rw [show (200 : Int32) = nI 200 from rfl, nJ_lt (by omega) (by omega)]; exact i2)] at ea
    rw [if_pos (by rw [i_le, t_0, nI_toInt (by omega)]; omega), hsl]
    have hFb : Fr (fun t f a => t = 0 ∧ f = 62 ∧ a = 811) S8 (jsI S8 62 811 (nI (h + 1))) := (Fr.refl).sI (by omega)
    have hLb : Lay (jsI S8 62 811 (nI (h + 1))) := es.1.fr hFb (fun f a z => by omega) (fun a z => by omega)
    have hvr : VR n (jsI S8 62 811 (nI (h + 1))) (6 + 3 * i) S2 (1 + i) := by
      obtain ⟨-, -, -, g⟩ := es.2.2.2.2.2.2.2.2.2.2.2.2.2.2.2.1
      obtain ⟨-, -, -, -, -, -, -, gv⟩ := g i i1
      rw [← es.2.2.2.2.2.2.2.2.2.2.2.2.2.1] at gv
      exact gv.c (hFb.sP (fun t f => by omega)) (hFb.sP (fun t f => by omega)) sS.refl
    obtain ⟨Cb, s1, s2, s3⟩ := setTo_vr hLb (kf_pile (show h < 600 by omega)) (kf_factv i2) (by omega) hvr
    have j60 : jI Cb 60 811 = nI f := by rw [s2.i (by unfold pV; omega), hFb.i (by omega)]; exact i60
    have a17 : jA 817 19 (nI h) = true := jA_n k_817 (by rw [ln_817]; omega) (by omega)
    have a4' : jA 4 17 (nI i) = true := jA_n k_4 (by rw [ln_4]; omega) (by omega)
    have hpl : jAR (jsI S8 62 811 (nI (h + 1))) 817 h = some (818 + 2 * h) := ly_pl hLb (by omega)
    have ea2 : f_X10_askFact 811 (co k) (stg f 0 C) = some (jsI Cb 60 811 (nI (f - 1))) := by
      rw [ea]
      unfold f_X10_pushed f_X10_pushed_31
      rw [if_pos k_811, ly_61 es.1, obt, i62, if_neg (by rw [show (600 : Int32) = nI 600 from rfl, nJ_le (by omega) (by omega)]; omega), jlt, nJ_1 (by omega), jlt, if_pos a17, nJ_cl (by omega), hpl, obt, jbt, obt, ly_55 hLb, obt, if_pos k_1, ly_35 hLb, obt, if_pos a4', nJ_cl (by omega), ly_bk hLb i2, obt, if_pos (kf_fact i2), ly_fv hLb (kf_fact i2), obt, if_pos (kf_pile (show h < 600 by omega)), show 5 + 3 * i + 1 = 6 + 3 * i by omega, s1, obt, leave_ok j60 a6.2.1.1 a6.2.1.2, obt]
    have hFe : Fr (fun t f a => t = 0 ∧ f = 60 ∧ a = 811) Cb (jsI Cb 60 811 (nI (f - 1))) := (Fr.refl).sI (by omega)
    have hFall : Fr (pE F h) C (jsI Cb 60 811 (nI (f - 1))) := (((hF8.mono (fun t f a z => by unfold pA at z; unfold pE; omega)).trans (hFb.mono (fun t f a z => by unfold pE; omega))).trans (s2.mono (fun t f a z => by unfold pV at z; unfold pE; omega))).trans (hFe.mono (fun t f a z => by unfold pE; omega))
    have g7 : ∀ g, g = 7 ∨ g = 8 → jI (jsI Cb 60 811 (nI (f - 1))) g F = jI C g F := fun g hg => by
      rw [hFe.i (by omega), s2.i (by unfold pV; omega), hFb.i (by omega), hF8.i (by unfold pA; omega)]
    obtain ⟨K, E⟩ := act_KE (t := t) (nr := nr) (ru := ru) (f := f) (rs := rs) (lo := lo) (hi := hi) (p2 := p) hF hhh a3 hFall (fun i hi => by rw [hFe.ai (by omega), s2.ai (by unfold pV; omega), hFb.ai (by omega)]; exact h813 i hi) (hR2.mono (fun t f a z => .inr z)) (fun s _ => hs2 s) h92 (Nat.le_refl _) p226.2.2 (by rw [hFe.i (by omega), s2.i (by unfold pV; omega), hFb.i (by omega)]; exact hk10)
    refine ⟨_, _, rfl, hP'.ends (by rw [c8, hk, ht0]; exact ea2) K E (by omega) ⟨by rw [g7 7 (.inl rfl)]; exact a5.1, by rw [g7 8 (.inr rfl)]; exact a5.2.1, by rw [hR2.i (by omega)]; exact a5.2.2.1, by rw [hR2.i (by omega)]; exact a5.2.2.2⟩ (by simp only [m_I_sI, m_L_sI, m_R_sI, m_AI_sI, m_AL_sI, m_AD_sI, m_AR_sI, m_n_sI, m_I_sL, m_L_sL, m_R_sL, m_AI_sL, m_AL_sL, m_AD_sL, m_AR_sL, m_n_sL, m_I_sR, m_L_sR, m_R_sR, m_AI_sR, m_AL_sR, m_AD_sR, m_AR_sR, m_n_sR, m_I_rI, m_L_rI, m_R_rI, m_AI_rI, m_AL_rI, m_AD_rI, m_AR_rI, m_n_rI, m_I_rL, m_L_rL, m_R_rL, m_AI_rL, m_AL_rL, m_AD_rL, m_AR_rL, m_n_rL, m_I_rD, m_L_rD, m_R_rD, m_AI_rD, m_AL_rD, m_AD_rD, m_AR_rD, m_n_rD, m_I_rR, m_L_rR, m_R_rR, m_AI_rR, m_AL_rR, m_AD_rR, m_AR_rR, m_n_rR, true_and, and_true, and_false, false_and, and_self, if_true, if_false, ite_self, Nat.reduceEqDiff, reduceIte, obt, jlt, jbt, jbd_ite, bind_ite]) ?_ h122 (by omega) ⟨1 + i, by omega, rfl, s3.c (hFe.sP (fun t f => by omega)) (hFe.sP (fun t f => by omega)) sS.refl⟩⟩
    rw [hFe.i (by omega), s2.i (by unfold pV; omega)]
    simp only [m_I_sI, m_L_sI, m_R_sI, m_AI_sI, m_AL_sI, m_AD_sI, m_AR_sI, m_n_sI, m_I_sL, m_L_sL, m_R_sL, m_AI_sL, m_AL_sL, m_AD_sL, m_AR_sL, m_n_sL, m_I_sR, m_L_sR, m_R_sR, m_AI_sR, m_AL_sR, m_AD_sR, m_AR_sR, m_n_sR, m_I_rI, m_L_rI, m_R_rI, m_AI_rI, m_AL_rI, m_AD_rI, m_AR_rI, m_n_rI, m_I_rL, m_L_rL, m_R_rL, m_AI_rL, m_AL_rL, m_AD_rL, m_AR_rL, m_n_rL, m_I_rD, m_L_rD, m_R_rD, m_AI_rD, m_AL_rD, m_AD_rD, m_AR_rD, m_n_rD, m_I_rR, m_L_rR, m_R_rR, m_AI_rR, m_AL_rR, m_AD_rR, m_AR_rR, m_n_rR, true_and, and_true, and_false, false_and, and_self, if_true, if_false, ite_self, Nat.reduceEqDiff, reduceIte, obt, jlt, jbt, jbd_ite, bind_ite]

/-! PURE: the evaluator: a node begins, ends, fails -/
/-- the reference's node behind its cost -/
noncomputable def wnB (rc : Nat → Nat → Int32 → Int32 → jM → Option (Int32 × jM)) (v1 v2 : Int32) (S2 : jM) : Option (Int32 × jM) := if v2 = (4 : Int32) then jbd (f_X12_ofWhole 2398 ((jI S2 120 2398).toInt64) S2) (fun x6 S7 => some (x6, S7)) else if v2 = (8 : Int32) then jbd (rc 2 2398 v1 0 S2) (fun x10 S11 => some (x10, S11)) else if v2 = (19 : Int32) then jbd (rc 4 2398 v1 0 S2) (fun x14 S15 => some (x14, S15)) else if v2 = (22 : Int32) then jbd (rc 3 2398 v1 0 S2) (fun x18 S19 => some (x18, S19)) else if v2 = (41 : Int32) then (jR S2 107 2398).bind (fun r22 => if jA r22 14 v1 = true then jbd (f_X12_ofWhole 2398 (jAL S2 r22 (v1).toNatClampNeg) S2) (fun x25 S26 => some (x25, S26)) else none) else if v2 = (42 : Int32) then (jR S2 107 2398).bind (fun r29 => if jA r29 14 v1 = true then (jR S2 108 2398).bind (fun r32 => if jA r32 13 v1 = true then (f_X12_decimal (jAL S2 r29 (v1).toNatClampNeg) (jAI S2 r32 (v1).toNatClampNeg)).bind (fun x35 => jbd (f_X12_ofReal 2398 x35 S2) (fun x37 S38 => some (x37, S38))) else none) else none) else if v2 = (47 : Int32) then (jR S2 104 2398).bind (fun r41 => if jA r41 13 v1 = true then jbd (rc 1 2398 (jAI S2 r41 (v1).toNatClampNeg) 0 S2) (fun x44 S45 => jbd (f_X12_negative 2398 x44 S45) (fun x47 S48 => some (x47, S48))) else none) else if v2 = (48 : Int32) then (jR S2 134 2398).bind (fun r51 => (jR S2 104 2398).bind (fun r53 => if jA r53 13 v1 = true then if jA r51 14 (jAI S2 r53 (v1).toNatClampNeg) = true then jbd (f_X12_ofWhole 2398 (jAL S2 r51 (jAI S2 r53 (v1).toNatClampNeg).toNatClampNeg) S2) (fun x57 S58 => some (x57, S58)) else none else none)) else if v2 = (49 : Int32) then (jR S2 104 2398).bind (fun r61 => if jA r61 13 v1 = true then jbd (rc 0 2398 (jAI S2 r61 (v1).toNatClampNeg) 0 S2) (fun x64 S65 => some (x64, S65)) else none) else if v2 = (50 : Int32) then (jR S2 107 2398).bind (fun r68 => if jA r68 14 v1 = true then jbd (f_X12_workFact 2398 (jAL S2 r68 (v1).toNatClampNeg) S2) (fun x71 S72 => some (x71, S72)) else none) else jbd (rc 5 2398 v1 v2 S2) (fun x75 S76 => some (x75, S76))
def tkl : List Int32 := [3, 4, 5, 6, 7, 8, 9, 10, 60, 61, 43, 45, 42, 47, 37, 91, 128, 129, 130, 131, 133, 135, 136, 137, 138, 139, 140, 141, 143, 144, 146, 149, 150, 151, 152]
theorem tkl_ok {k : Int32} (h : tkind k) : k ∈ tkl := by
  unfold tkind at h
  unfold tkl
  simp only [List.mem_cons, List.not_mem_nil, or_false]
  exact h
theorem wkm : ∀ k ∈ tkl, (if kmap k = 22 then (150 : Int32) else if kmap k = 25 then 25 else if kmap k = 10 then 25 else if kmap k = 9 then 25 else if kmap k = 24 then 25 else 1) = nI (wk k) := by decide +kernel
theorem node_g {k t w : Nat} {kd : Int32} {rc : Nat → Nat → Int32 → Int32 → jM → Option (Int32 × jM)} {R : jM} (hR : Lay R) (ht : t < 33) (hk : k < 301) (hkd : tkind kd) (h8 : jAI R 2408 (301 * t + k) = kmap kd) (h123 : jI R 123 2398 = nI w) (hw : w ≤ 400) : f_X12_workNode rc 2398 (nI (301 * t + k)) R = if w + wk kd ≤ 400 then wnB rc (nI (301 * t + k)) (kmap kd) (jsI R 123 2398 (nI (w + wk kd))) else some (-1, jsI (jsI R 126 2398 7) 127 2398 (jI R 122 2398)) := by
  obtain ⟨a1, a2, a3, a4, a5, a6, a7, a8⟩ := nA ht hk
  have hb := wk_b kd
  have h49 : ∀ c : Int32, f_X12_workNode_49 rc 2398 (nI (301 * t + k)) (kmap kd) c R = jbd (f_X12_counted 2398 c R) (fun x1 S2 => if x1 = 0 then some ((-1 : Int32), S2) else wnB rc (nI (301 * t + k)) (kmap kd) S2) := fun c => by
    unfold f_X12_workNode_49
    rw [if_pos k_2398]
    rfl
  have e : f_X12_workNode rc 2398 (nI (301 * t + k)) R = f_X12_workNode_49 rc 2398 (nI (301 * t + k)) (kmap kd) (nI (wk kd)) R := by
    unfold f_X12_workNode f_X12_workNode_43
    rw [if_pos k_2398, ly_103 hR, obt, if_pos a2, a8, h8, jlt, ← wkm kd (tkl_ok hkd)]
    repeat' split
    all_goals first | rfl | contradiction
  rw [e, h49]
  unfold f_X12_counted f_X12_failing
  rw [if_pos k_2398, h123, nJ_add (by omega)]
  by_cases c : w + wk kd ≤ 400
  · rw [if_pos c, if_pos (by rw [show (400 : Int32) = nI 400 from rfl, nJ_le (by omega) (by omega)]; exact c), jlt, jbt, if_neg (by decide)]
  · rw [if_neg c, if_neg (by rw [show (400 : Int32) = nI 400 from rfl, nJ_le (by omega) (by omega)]; exact c), if_pos k_2398, jlt, jlt, jbt, jbt, if_pos rfl]
    simp only [m_I_sI, m_L_sI, m_R_sI, m_AI_sI, m_AL_sI, m_AD_sI, m_AR_sI, m_n_sI, m_I_sL, m_L_sL, m_R_sL, m_AI_sL, m_AL_sL, m_AD_sL, m_AR_sL, m_n_sL, m_I_sR, m_L_sR, m_R_sR, m_AI_sR, m_AL_sR, m_AD_sR, m_AR_sR, m_n_sR, m_I_rI, m_L_rI, m_R_rI, m_AI_rI, m_AL_rI, m_AD_rI, m_AR_rI, m_n_rI, m_I_rL, m_L_rL, m_R_rL, m_AI_rL, m_AL_rL, m_AD_rL, m_AR_rL, m_n_rL, m_I_rD, m_L_rD, m_R_rD, m_AI_rD, m_AL_rD, m_AD_rD, m_AR_rD, m_n_rD, m_I_rR, m_L_rR, m_R_rR, m_AI_rR, m_AL_rR, m_AD_rR, m_AR_rR, m_n_rR, true_and, and_true, and_false, false_and, and_self, if_true, if_false, ite_self, Nat.reduceEqDiff, reduceIte, obt, jlt, jbt, jbd_ite, bind_ite]
/-- a frame that has FAILED is left -/
theorem lf_ok {F T np f k st h r : Nat} {S : jM} (hS : Lay S) (hF : isF F) (h64 : jR S 64 811 = some F) (h65 : jR S 65 811 = some T) (hk : jK T = 6) (hnp : np ≤ 300) (hkn : k < np) (hT : TOP f k st h r S) (hst : st < 2147483648) (h1 : jAI S (T + 1) k = 149 → st = 1 → jI S 7 F = 7) (h2 : jAI S (T + 1) k = 7 → st = 0) : f_X10_leaveFailed 811 S = some (jsI S 60 811 (nI (f - 1))) := by
  obtain ⟨t1, t2, t3, t4, t5, t6⟩ := hT
  obtain ⟨a1, a2, a3, a4, a5, a6⟩ := aF (show f - 1 < 300 by omega)
  have kt := kd_text hk
  have hL := hS.2.2.2.1 T hk
  have hA : jA (T + 1) 13 (nI k) = true := jA_n kt.1.1 (by omega) (by omega)
  have hck : (nI k).toNatClampNeg = k := nJ_cl (by omega)
  have e150 : f_X10_leaveFailed_150 811 S = some (jsI S 60 811 (nI (f - 1))) := by
    unfold f_X10_leaveFailed_150
    rw [if_pos k_811, leave_ok t1 t2.1 t2.2, obt]
  have e104 : f_X10_leaveFailed_104 811 (nI (f - 1)) (nI k) S = some (jsI S 60 811 (nI (f - 1))) := by
    unfold f_X10_leaveFailed_104
    rw [if_pos k_811, h65, obt, if_pos hk, hL.1, obt, if_pos hA, hck]
    by_cases c : jAI S (T + 1) k = 7
    · rw [if_pos c, ly_57 hS, obt, if_pos a2, a6, t4, h2 c, if_pos (by decide), e150]
    · rw [if_neg c, e150]
  unfold f_X10_leaveFailed
  rw [if_pos k_811, t1, f_1 t2.1 t2.2, jlt, ly_56 hS, obt, if_pos a1, a6, t3, jlt, h65, obt, if_pos hk, hL.1, obt, if_pos hA, hck]
  by_cases c : jAI S (T + 1) k = 149
  · rw [if_pos c, ly_57 hS, obt, if_pos a2, t4]
    by_cases c2 : st = 1
    · rw [if_pos (by rw [c2]; rfl), h64, obt, if_pos hF.k, if_pos (h1 c c2), e104]
    · rw [if_neg (by rw [show (1 : Int32) = nI 1 from rfl, i_eq, nI_toInt (by omega), nI_toInt (by omega)]; omega), e104]
  · rw [if_neg c, e104]
theorem ES.ki {F T t np nr : Nat} {ru : Nat → Nat × Nat × Nat} {n : Int} {ki : Nat → Int32} {co : Nat → Int64} {inn : Nat → Int32} {C R : jM} (h : ES F T t np nr ru n ki co inn C R) : jAI C (T + 1) = ki ∧ jAL C (T + 2) = co ∧ jAI C (T + 3) = inn := ⟨h.2.2.2.2.2.2.2.2.2.2.2.2.2.2.2.2.2.2.2.1, h.2.2.2.2.2.2.2.2.2.2.2.2.2.2.2.2.2.2.2.2.1, h.2.2.2.2.2.2.2.2.2.2.2.2.2.2.2.2.2.2.2.2.2.1⟩
theorem ES.rk {F T t np nr : Nat} {ru : Nat → Nat × Nat × Nat} {n : Int} {ki : Nat → Int32} {co : Nat → Int64} {inn : Nat → Int32} {C R : jM} (h : ES F T t np nr ru n ki co inn C R) : ∀ k, k < np → rK C T R t k := h.2.2.2.2.2.2.2.2.2.2.2.2.2.2.2.2.2.2.2.2.2.2.1
theorem ES.ru {F T t np nr : Nat} {ru : Nat → Nat × Nat × Nat} {n : Int} {ki : Nat → Int32} {co : Nat → Int64} {inn : Nat → Int32} {C R : jM} (h : ES F T t np nr ru n ki co inn C R) : ∀ r, r < nr → (ru r).1 ≤ 300 ∧ (ru r).2.2 ≤ np ∧ ∃ k, jAI C (T + 5) r = nI k ∧ jAI R 2417 (24 * t + r) = nI (301 * t + k) ∧ tOK ki co inn ru nr (ru r).2.1 (ru r).1 (fun _ => False) (ru r).2.1 (ru r).2.2 k := h.2.2.2.2.2.2.2.2.2.2.2.2.2.2.2.2.2.2.2.2.2.2.2
/-- a failure under our frame: it is left, where it is neither a TRY's nor a rule's -/
theorem PF.res0 {F T t np nr : Nat} {ru : Nat → Nat × Nat × Nat} {n : Int} {ki : Nat → Int32} {co : Nat → Int64} {inn : Nat → Int32} {f k h rs lo hi r : Nat} {C0 R0 : jM} {w0 p0 j o st : Nat} {C R : jM} (a : PF F T t np nr ru n ki co inn f k h rs lo hi r C0 R0 w0 p0 j o st C R) (ho : o ≤ 6) (hl : f_X10_leaveFailed 811 C = some (jsI C 60 811 (nI (f - 1)))) : ∃ j' C', it F j' C0 = some C' ∧ RES F t nr ru n f h rs lo hi r C0 R0 w0 p0 j' C' (-1) R := by
  obtain ⟨c, w, p, sc, a1, a2, a3, a4, a5, a6, a7, ⟨a8, a8', a8''⟩, a9⟩ := a
  have hF : isF F := a2.2.2.1
  have hFn := hF.n
  have hc0 : ¬ jI C 7 F = 0 := by rw [a5.2.1, i_eq, t_0]; have := a5.1; omega
  have hFr : Fr (fun t f a => a = 811 ∧ t = 0 ∧ f = 60) C (jsI C 60 811 (nI (f - 1))) := (Fr.refl).sI (by omega)
  refine ⟨j + 1, _, it_1 a1 (by rw [a6.1, nI_toInt (by have := a6.2.1; omega)]; have := a6.2.1; omega) (by unfold stp; rw [if_pos a2.2.2.2.2.2.2.2.1, if_neg hc0]; exact hl), w, p, sc, ?_, ?_, by omega, ?_, a7, .inr ⟨rfl, by omega, c, a5.1, ?_, a5.2.2.1, ?_⟩⟩
  · exact a3.f (by rw [hFr.i (by omega)]; exact a3.1.1) a3.1.2.1 a3.1.2.2 ((hFr.i (by omega)).trans a3.2.1.1) ((hFr.i (by omega)).trans a3.2.1.2) (hFr.i (by omega)) rfl a3.2.2.2.1.1 (Nat.le_refl _) a3.2.2.2.1.2.2 (fun a h1 h2 h3 => hFr.sP (fun t f => by omega)) (fun _ _ _ => rfl) (fun _ _ => sS.refl)
  · have k1 : KP F t nr ru f h rs lo hi C R w p (jsI C 60 811 (nI (f - 1))) R w p := ⟨hFr.mono (fun t f a z => by unfold pW; omega), Fr.refl, fun i _ => ⟨rfl, rfl, rfl, rfl⟩, fun i _ => ⟨hFr.sP (fun t f => by omega), hFr.sP (fun t f => by omega)⟩, fun _ _ => sS.refl, ⟨Nat.le_refl _, Nat.le_refl _⟩, fun q _ => ⟨rfl, rfl⟩, fun r => .inr rfl⟩
    exact a4.trans k1 (Nat.le_refl _) (Nat.le_refl _) (fun q z => z) (Nat.le_refl _)
  · simp only [m_I_sI, m_L_sI, m_R_sI, m_AI_sI, m_AL_sI, m_AD_sI, m_AR_sI, m_n_sI, m_I_sL, m_L_sL, m_R_sL, m_AI_sL, m_AL_sL, m_AD_sL, m_AR_sL, m_n_sL, m_I_sR, m_L_sR, m_R_sR, m_AI_sR, m_AL_sR, m_AD_sR, m_AR_sR, m_n_sR, m_I_rI, m_L_rI, m_R_rI, m_AI_rI, m_AL_rI, m_AD_rI, m_AR_rI, m_n_rI, m_I_rL, m_L_rL, m_R_rL, m_AI_rL, m_AL_rL, m_AD_rL, m_AR_rL, m_n_rL, m_I_rD, m_L_rD, m_R_rD, m_AI_rD, m_AL_rD, m_AD_rD, m_AR_rD, m_n_rD, m_I_rR, m_L_rR, m_R_rR, m_AI_rR, m_AL_rR, m_AD_rR, m_AR_rR, m_n_rR, true_and, and_true, and_false, false_and, and_self, if_true, if_false, ite_self, Nat.reduceEqDiff, reduceIte, obt, jlt, jbt, jbd_ite, bind_ite]
  · rw [hFr.i (by omega)]; exact a5.2.1
  · rw [hFr.i (by omega)]; exact a5.2.2.2
theorem PF.res {F T t np nr : Nat} {ru : Nat → Nat × Nat × Nat} {n : Int} {ki : Nat → Int32} {co : Nat → Int64} {inn : Nat → Int32} {f k h rs lo hi r : Nat} {C0 R0 : jM} {w0 p0 j o st : Nat} {C R : jM} (a : PF F T t np nr ru n ki co inn f k h rs lo hi r C0 R0 w0 p0 j o st C R) (hkn : k < np) (ho : o ≤ 6) (hst : st < 2147483648) (h1 : ki k = 149 → st = 1 → jI C 7 F = 7) (h2 : ki k = 7 → st = 0) : ∃ j' C', it F j' C0 = some C' ∧ RES F t nr ru n f h rs lo hi r C0 R0 w0 p0 j' C' (-1) R := by
  obtain ⟨c, w, p, sc, a1, a2, a3, a4, a5, a6, a7, a8, a9⟩ := id a
  exact a.res0 ho (lf_ok a2.1 a2.2.2.1 a2.2.2.2.2.2.2.2.1 a2.2.2.2.2.2.2.2.2.1 a2.2.2.2.1.1 a2.2.2.2.2.2.1 hkn a6 hst (by rw [a2.ki.1]; exact h1) (by rw [a2.ki.1]; exact h2))
